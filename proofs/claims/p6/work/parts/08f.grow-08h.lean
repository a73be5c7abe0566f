section
/-! ===== Rows grow ===== -/
def klen (Z : jZ) (a : Nat) : Nat := match jr Z a 0 with
  | some b => jlen Z b
  | none => 0
/-- how often rows may still be doubled, in pieces of 64 -/
noncomputable def potc (Z : jZ) : Nat := (Z.1.map (fun a => if Z.2.1 a = 7 then (capN Z a - klen Z a) / 64 else 0)).sum
/-- what is left of the bounds suffices for all rows, and for T pilgrims more -/
def BUD (B : Nat × Nat) (Z : jZ) (T : Nat) : Prop := jcz Z + potc Z + T * 4121 ≤ B.1 ∧ jsz Z + 128 * potc Z + T * 524632 ≤ B.2
def CP (Z Z' : jZ) : Prop := ∀ x, jk Z x 7 → capN Z' x = capN Z x
theorem CP.rf {Z : jZ} : CP Z Z := fun _ _ => rfl
theorem CP.trans {Z Z' Z'' : jZ} (hx : jext Z Z') (h : CP Z Z') (h' : CP Z' Z'') : CP Z Z'' := fun x hk => (h' x (hx x 7 hk).1).trans (h x hk)
theorem sum_one {l : List Nat} {f g : Nat → Nat} {a : Nat} (hn : l.Nodup) (ha : a ∈ l) (h : ∀ x ∈ l, x ≠ a → f x = g x) : (l.map f).sum + g a = (l.map g).sum + f a := by
  induction l with
  | nil => exact absurd ha List.not_mem_nil
  | cons b l ih =>
    obtain ⟨hb, hn⟩ := List.nodup_cons.mp hn
    rw [List.map_cons, List.map_cons, List.sum_cons, List.sum_cons]
    by_cases e : b = a
    · subst e
      have : (l.map f) = (l.map g) := List.map_congr_left (fun x hx => h x (List.mem_cons_of_mem _ hx) (fun q => hb (q ▸ hx)))
      rw [this]; omega
    · have h1 := ih hn ((List.mem_cons.mp ha).resolve_left (fun q => e q.symm)) (fun x hx => h x (List.mem_cons_of_mem _ hx))
      have h2 := h b List.mem_cons_self e
      omega
theorem pw_64 {n : Nat} (h : pw n) : n % 64 = 0 ∧ 64 ≤ n := by
  unfold pw at h; omega
theorem pw_2 {n : Nat} (h : pw n) (hn : n < 1048576) : pw (2 * n) := by
  unfold pw at h ⊢; omega
theorem pw_17 {n : Nat} (h : pw n) (hn : n ≤ 98304) : 2 * n ≤ 131072 := by
  unfold pw at h; omega
theorem capN_cases (Z : jZ) (a : Nat) : capN Z a = 1048576 ∨ capN Z a = 131072 := by
  unfold capN
  split <;> simp
/-- new keys for a Rows -/
theorem WD_grow {B : Nat × Nat} {T : Nat} {Z : jZ} {I : jI} {a q n b : Nat} (w : WD Z I) (bd : BUD B Z T) (ha : jk Z a 7) (hq : q ∉ Z.1) (eb : jr Z a 0 = some b) (hn : n = 2 * jlen Z b) (hcap : n ≤ capN Z a) (hlt : jlen Z b < 1048576) :
    WD (jpR (jnw Z q 15 n) a 0 (some q)) (jz0 I q) ∧ BUD B (jpR (jnw Z q 15 n) a 0 (some q)) T ∧ FR W7 Z I (jpR (jnw Z q 15 n) a 0 (some q)) (jz0 I q) ∧ CP Z (jpR (jnw Z q 15 n) a 0 (some q)) := by
  obtain ⟨b0, b1, b2, b4, b5, e0, e1, e2, e4, e5, k0, k1, k2, k4, k5, n1, n2, n4, n5, n12, n14, n15, n24, n25, n45, r1, r2, r3, r4, r5, r6⟩ := rows_at w ha
  cases eb.symm.trans e0
  obtain ⟨Z', hZ'⟩ : ∃ Z', Z' = jpR (jnw Z q 15 n) a 0 (some q) := ⟨_, rfl⟩
  rw [← hZ']
  have haq : a ≠ q := fun e => hq (e ▸ ha.1)
  have m1 : Z'.1 = Z.1 ++ [q] := by rw [hZ']
  have kq : Z'.2.1 q = 15 := by rw [hZ']; exact va_up_self _ _ _
  have ko : ∀ x, x ≠ q → Z'.2.1 x = Z.2.1 x := fun x hx => by rw [hZ']; exact va_up_ne _ _ hx
  have lq : jlen Z' q = n := by rw [hZ']; exact va_up_self _ _ _
  have lo : ∀ x, x ≠ q → jlen Z' x = jlen Z x := fun x hx => by rw [hZ']; exact va_up_ne _ _ hx
  have ra : jr Z' a 0 = some q := by
    rw [hZ']
    show va_up _ a (va_up _ 0 (some q)) a 0 = some q
    rw [va_up_self, va_up_self]
  have ro : ∀ x j, x ≠ q → ¬ (x = a ∧ j = 0) → jr Z' x j = jr Z x j := fun x j hx hn => by
    rw [hZ']
    show va_up (va_up Z.2.2.2 q fun _ => none) a (va_up ((va_up Z.2.2.2 q fun _ => none) a) 0 (some q)) x j = Z.2.2.2 x j
    by_cases e : x = a
    · subst e
      rw [va_up_self, va_up_ne _ _ (fun h => hn ⟨rfl, h⟩), va_up_ne _ _ hx]
    · rw [va_up_ne _ _ e, va_up_ne _ _ hx]
  have rq : ∀ j, jr Z' q j = none := fun j => by
    rw [hZ']
    show va_up (va_up Z.2.2.2 q fun _ => none) a (va_up ((va_up Z.2.2.2 q fun _ => none) a) 0 (some q)) q j = none
    rw [va_up_ne _ _ haq.symm, va_up_self]
  have nq : ∀ x c, jk Z x c → x ≠ q := fun x c hk e => hq (e ▸ hk.1)
  have up : ∀ x c, jk Z x c → jk Z' x c := fun x c hk => ⟨by rw [m1]; exact List.mem_append_left _ hk.1, by rw [ko x (nq x c hk)]; exact hk.2⟩
  have dn : ∀ x c, jk Z' x c → x ≠ q → jk Z x c := fun x c hk hx => ⟨by
      have := hk.1
      rw [m1] at this
      rcases List.mem_append.mp this with h | h
      · exact h
      · exact absurd (List.mem_singleton.mp h) hx, by rw [← ko x hx]; exact hk.2⟩
  have Io : ∀ x, x ≠ q → jz0 I q x = I x := fun x hx => va_up_ne _ _ hx
  have hx : jext Z Z' := fun x c hk => ⟨up x c hk, lo x (nq x c hk)⟩
  have inP : ∀ x c j y, jk Z x c → jr Z x j = some y → y ≠ q := fun x c j y hk e h => hq (h ▸ w.2.1.2.1 x c j y hk e)
  have hcp : ∀ x, capN Z' x = capN Z x ∨ x = q := fun x => by
    by_cases hxq : x = q
    · exact Or.inr hxq
    · left
      have : (∃ r, jk Z' r 0 ∧ jr Z' r 0 = some x) ↔ (∃ r, jk Z r 0 ∧ jr Z r 0 = some x) := by
        constructor
        · rintro ⟨r, h1, h2⟩
          have hr : r ≠ q := fun e => by
            subst e
            rw [rq] at h2; cases h2
          have h1' := dn r 0 h1 hr
          have hra : r ≠ a := fun e => by
            subst e
            have := h1'.2.symm.trans ha.2
            omega
          exact ⟨r, h1', by rw [← ro r 0 hr (fun h => hra h.1)]; exact h2⟩
        · rintro ⟨r, h1, h2⟩
          have hra : r ≠ a := fun e => by
            subst e
            have := h1.2.symm.trans ha.2
            omega
          exact ⟨r, up r 0 h1, by rw [ro r 0 (nq r 0 h1) (fun h => hra h.1)]; exact h2⟩
      unfold capN
      by_cases hh : ∃ r, jk Z r 0 ∧ jr Z r 0 = some x
      · rw [if_pos hh, if_pos (this.mpr hh)]
      · rw [if_neg hh, if_neg (fun h => hh (this.mp h))]
  have sh' : SH Z' := by rw [hZ']; exact SH_keys (SH_nwa w.1 hq (by decide) (by decide)) ((jext_nw hq) a 7 ha).1 jk_nw
  have uq' : UQ Z' := by
    refine ⟨?_, fun x c j y hk e => ?_, fun x c j x' c' j' y hk hk' e e' hs hs' => ?_⟩
    · rw [m1]
      exact List.nodup_append.mpr ⟨w.2.1.1, List.nodup_cons.mpr ⟨List.not_mem_nil, List.nodup_nil⟩, fun x hx y hy h => hq (by rw [← List.mem_singleton.mp hy, ← h]; exact hx)⟩
    · rw [m1]
      by_cases hxq : x = q
      · subst hxq; rw [rq] at e; cases e
      · by_cases h0 : x = a ∧ j = 0
        · obtain ⟨rfl, rfl⟩ := h0
          rw [ra] at e; cases e
          exact List.mem_append_right _ (List.mem_singleton.mpr rfl)
        · rw [ro x j hxq h0] at e
          exact List.mem_append_left _ (w.2.1.2.1 x c j y (dn x c hk hxq) e)
    · have hxq : x ≠ q := fun h => by subst h; rw [rq] at e; cases e
      have hxq' : x' ≠ q := fun h => by subst h; rw [rq] at e'; cases e'
      have d := dn x c hk hxq
      have d' := dn x' c' hk' hxq'
      by_cases h0 : x = a ∧ j = 0
      · by_cases h0' : x' = a ∧ j' = 0
        · exact ⟨h0.1.trans h0'.1.symm, h0.2.trans h0'.2.symm⟩
        · obtain ⟨rfl, rfl⟩ := h0
          rw [ra] at e; cases e
          rw [ro x' j' hxq' h0'] at e'
          exact absurd rfl (inP x' c' j' _ d' e')
      · by_cases h0' : x' = a ∧ j' = 0
        · obtain ⟨rfl, rfl⟩ := h0'
          rw [ra] at e'; cases e'
          rw [ro x j hxq h0] at e
          exact absurd rfl (inP x c j _ d e)
        · rw [ro x j hxq h0] at e
          rw [ro x' j' hxq' h0'] at e'
          exact w.2.1.2.2 x c j x' c' j' y d d' e e' hs hs'
  have ok' : OK Z' (jz0 I q) := by
    refine ⟨fun x c j hk hc => ?_, fun x c j y hk e k hs i => ?_⟩
    · have hxq : x ≠ q := fun h => by
        subst h
        have := kq.symm.trans hk.2
        omega
      rw [Io x hxq]
      exact w.2.2.1.1 x c j (dn x c hk hxq) hc
    · have hxq : x ≠ q := fun h => by subst h; rw [rq] at e; cases e
      have hyq : y ≠ q := fun h => by subst h; rw [kq] at k; cases k
      have h0 : ¬ (x = a ∧ j = 0) := fun h => by
        obtain ⟨rfl, rfl⟩ := h
        rw [ra] at e; cases e
        exact hyq rfl
      rw [ro x j hxq h0] at e
      rw [Io y hyq]
      rw [ko y hyq] at k
      exact w.2.2.1.2 x c j y (dn x c hk hxq) e k hs i
  have ri' : RI Z' (jz0 I q) := by
    intro x c0 c1 c2 c4 hk g0 g1 g2 g4
    have hxq : x ≠ q := fun h => by subst h; rw [rq] at g0; cases g0
    have d := dn x 7 hk hxq
    rw [ro x 1 hxq (fun h => by omega)] at g1
    rw [ro x 2 hxq (fun h => by omega)] at g2
    rw [ro x 4 hxq (fun h => by omega)] at g4
    have i1 := Io c1 (inP x 7 1 c1 d g1)
    have i2 := Io c2 (inP x 7 2 c2 d g2)
    have i4 := Io c4 (inP x 7 4 c4 d g4)
    have cx := (hcp x).resolve_right hxq
    unfold RI1
    rw [i1, i2, i4, Io x hxq, cx]
    by_cases hxa : x = a
    · subst hxa
      rw [ra] at g0; cases g0
      cases e1.symm.trans g1; cases e2.symm.trans g2; cases e4.symm.trans g4
      have := pw_2 r2 hlt
      have h20 : 2 * jlen Z b ≤ 1048576 := by unfold pw at this; omega
      rw [lq, hn]
      rw [hn] at hcap
      exact ⟨by omega, this, hcap, r4, r5, r6⟩
    · rw [ro x 0 hxq (fun h => hxa h.1)] at g0
      have old := w.2.2.2 x c0 c1 c2 c4 d g0 g1 g2 g4
      unfold RI1 at old
      rw [lo c0 (inP x 7 0 c0 d g0)]
      exact old
  have fr' : FR W7 Z I Z' (jz0 I q) := by
    refine ⟨hx, fun x c j hk h7 h12 => ?_, fun x c j hk hc hn => by rw [Io x (nq x c hk)], fun x c j y hk e k hs hn => Io y (inP x c j y hk e)⟩
    refine ro x j (nq x c hk) (fun h => h7 ⟨?_, h.2⟩)
    exact hk.2.symm.trans (by rw [h.1]; exact ha.2)
  refine ⟨⟨sh', uq', ok', ri'⟩, ?_, fr', fun x hk => (hcp x).resolve_right (nq x 7 hk)⟩
  -- the bounds
  have ka : klen Z a = jlen Z b := by unfold klen; rw [eb]
  have ka' : klen Z' a = n := by unfold klen; rw [ra]; exact lq
  have hp : potc Z' + (capN Z a - jlen Z b) / 64 = potc Z + (capN Z a - n) / 64 := by
    unfold potc
    rw [m1, List.map_append, List.sum_append]
    have : (List.map (fun a => if Z'.2.1 a = 7 then (capN Z' a - klen Z' a) / 64 else 0) [q]).sum = 0 := by simp [kq]
    rw [this, Nat.add_zero]
    have h := sum_one (l := Z.1) (f := fun a => if Z'.2.1 a = 7 then (capN Z' a - klen Z' a) / 64 else 0) (g := fun a => if Z.2.1 a = 7 then (capN Z a - klen Z a) / 64 else 0) (a := a) w.2.1.1 ha.1 (fun x hxm hne => by
      have hxq : x ≠ q := fun e => hq (e ▸ hxm)
      simp only [ko x hxq, (hcp x).resolve_right hxq]
      by_cases h7 : Z.2.1 x = 7
      · rw [if_pos h7, if_pos h7]
        have : klen Z' x = klen Z x := by
          unfold klen
          rw [ro x 0 hxq (fun h => hne h.1)]
          obtain ⟨y, ey, ky⟩ := sh_o w.1 (show jk Z x 7 from ⟨hxm, h7⟩) (j := 0) (k := 15) rfl
          rw [ey]
          exact lo y (inP x 7 0 y ⟨hxm, h7⟩ ey)
        rw [this]
      · rw [if_neg h7, if_neg h7])
    simp only [ko a haq, ha.2, if_true, (hcp a).resolve_right haq, ka, ka'] at h
    exact h
  have c1 : jcz Z' = jcz Z + 1 := by unfold jcz; rw [m1]; simp
  have c2 : jsz Z' = jsz Z + n := by
    rw [hZ']
    show jsz (jnw Z q 15 n) = _
    rw [jsz_nw hq]; rfl
  obtain ⟨g1, g2⟩ := bd
  have p64 := pw_64 r2
  have pc : capN Z a % 64 = 0 := by rcases capN_cases Z a with h | h <;> rw [h]
  unfold BUD
  rw [c1, c2]
  constructor <;> omega
theorem RO.fr {a : Nat} {W : List (Nat × Nat)} {Z Z' : jZ} {I I' : jI} (f : FR W Z I Z' I') (hw : (7, 3) ∉ W) : RO a Z I I' := fun x hk _ => f.2.2.1 x 7 3 hk (by decide) hw
theorem BUD.jin {B : Nat × Nat} {Z : jZ} {T : Nat} (h : BUD B Z T) : jin B Z := ⟨by have := h.1; omega, by have := h.2; omega⟩
set_option maxHeartbeats 1000000 in
theorem s_X7_push {B : Nat × Nat} {T : Nat} {Z : jZ} {I : jI} {L : jL} (w_I : WD Z I) (bd : BUD B Z T) (v0 : Nat) (v1 : Int32) (v2 : Int64) (kv0 : jk Z v0 7) (p0 : 0 ≤ v1.toInt ∧ v1.toInt ≤ 24) (p1 : FI Z I v0 v1.toNatClampNeg) (p2 : capN Z v0 = 1048576 ∨ (I v0 3).toInt ≤ 98304) {Q : jZ → jI → jL → Prop}
    (hQ : ∀ (Z' : jZ) (I' : jI) (L' : jL), WD Z' I' → BUD B Z' T → FR W7 Z I Z' I' → CP Z Z' → ((I v0 3).toInt ≤ (I' v0 3).toInt ∧ (I' v0 3).toInt ≤ (I v0 3).toInt + 1 ∧ FI Z' I' v0 v1.toNatClampNeg ∧ RO v0 Z I I') → Q Z' I' L') : f_X7_push B v0 v1 v2 Z I L Q := by
  have z0 : (0 : Int32).toInt = 0 := rfl
  have z1 : (1 : Int32).toInt = 1 := rfl
  have vi1 : vp_in v1 25 := vi_of rfl (by omega) (by omega)
  have hp : v1.toNatClampNeg < 25 := i_clamp p0.1 (by omega)
  -- the second half, in any pool
  have half : ∀ (Z1 : jZ) (I1 : jI) (L1 : jL), WD Z1 I1 → BUD B Z1 T → FR W7 Z I Z1 I1 → CP Z Z1 → jk Z1 v0 7 → I1 v0 3 = I v0 3 → FI Z1 I1 v0 v1.toNatClampNeg → (∀ x, jk Z x 7 → x ≠ v0 → I1 x 3 = I x 3) → f_X7_push_b38 B Q v0 v1 v2 Z1 I1 L1 := by
    intro Z1 I1 L1 w b f cp k e3 fi ot
    obtain ⟨b0, b1, b2, b4, b5, e0, e1, e2, e4, e5, k0, k1, k2, k4, k5, n1, n2, n4, n5, n12, n14, n15, n24, n25, n45, r1, r2, r3, r4, r5, r6⟩ := rows_at w k
    unfold f_X7_push_b38
    have no : Q Z1 I1 L1 := hQ Z1 I1 L1 w b f cp ⟨by rw [e3]; omega, by rw [e3]; omega, fi, ot⟩
    intro b' h; cases e0.symm.trans h
    refine ⟨fun _ => no, fun c => ⟨fun _ => no, fun _ => ⟨fun _ => no, fun _ => ?_⟩⟩⟩
    have hc := (not_congr (i_le (i_nI (by omega)) rfl)).mp c
    intro b' h; cases e0.symm.trans h
    refine ⟨vi_of rfl (by omega) (by omega), fun L7 q7 I8 q8 => ?_⟩
    intro b' h; cases e2.symm.trans h
    refine ⟨vi1, vi1, fun I9 q9 => ?_⟩
    have fb := fi b1 e1
    have g4 := r4 _ hp
    have t3 : (I9 v0 3).toInt = (I1 v0 3).toInt + 1 := by
      rw [q9, jpI_ne n2, q8, jpI_at]
      exact i_add rfl z1 (by omega) (by omega)
    have a8 : I9 v0 8 = I1 v0 8 := by rw [q9, jpI_ne n2, q8, jpI_off (by decide)]
    have a9 : I9 v0 9 = I1 v0 9 := by rw [q9, jpI_ne n2, q8, jpI_off (by decide)]
    have c1 : I9 b1 = I1 b1 := by rw [q9, jpI_ne n12, q8, jpI_ne n1.symm]
    have c4 : I9 b4 = I1 b4 := by rw [q9, jpI_ne n24.symm, q8, jpI_ne n4.symm]
    have hz : (I1 b2 v1.toNatClampNeg).toInt ≤ (I1 v0 3).toInt := by
      by_cases q : 0 < (I1 b2 v1.toNatClampNeg).toInt
      · have := g4.2 q; omega
      · omega
    have c2 : ∀ p, (I9 b2 p).toInt = if p = v1.toNatClampNeg then (I1 b2 v1.toNatClampNeg).toInt + 1 else (I1 b2 p).toInt := fun p => by
      rw [q9]
      by_cases q : p = v1.toNatClampNeg
      · rw [if_pos q, q, jpI_at, q8, jpI_ne n2.symm]
        exact i_add rfl z1 (by omega) (by omega)
      · rw [if_neg q, jpI_off q, q8, jpI_ne n2.symm]
    obtain ⟨g1', g2', g3'⟩ := WD_rows (I' := I9) w k e0 e1 e2 e4 e5 (fun x x0 x1 x2 x4 x5 => by rw [q9, jpI_ne x2, q8, jpI_ne x0]) (fun j j3 j8 j9 => by rw [q9, jpI_ne n2, q8, jpI_off j3]) (by
      unfold RI1
      rw [t3, a8, a9, c1, c4]
      refine ⟨by omega, r2, r3, fun p hp => ?_, r5, r6⟩
      rw [c2]
      by_cases q : p = v1.toNatClampNeg
      · rw [if_pos q, q]
        by_cases q2 : 0 < (I1 b2 v1.toNatClampNeg).toInt
        · have := g4.2 q2; omega
        · omega
      · rw [if_neg q]
        have := r4 p hp
        refine ⟨this.1, fun h => ?_⟩
        have := this.2 h
        omega)
    refine hQ Z1 I9 L7 g1' b (FR.trans w_I.1 w_I.2.1 f g2') cp ⟨by rw [t3, e3]; omega, by rw [t3, e3]; omega, fun b' hb => ?_, fun x hk hn => by rw [g3' x (f.1 x 7 hk).1 hn]; exact ot x hk hn⟩
    cases e1.symm.trans hb
    rw [c1, t3]
    omega
  obtain ⟨b0, b1, b2, b4, b5, e0, e1, e2, e4, e5, k0, k1, k2, k4, k5, n1, n2, n4, n5, n12, n14, n15, n24, n25, n45, r1, r2, r3, r4, r5, r6⟩ := rows_at w_I kv0
  have same : f_X7_push_b38 B Q v0 v1 v2 Z I L := half Z I L w_I bd FR.rf CP.rf kv0 rfl p1 (fun _ _ _ => rfl)
  unfold f_X7_push
  intro b h; cases e0.symm.trans h
  refine ⟨fun _ => same, fun c => ⟨fun _ => same, fun c2 => ?_⟩⟩
  have hc : (I v0 3).toInt = (jlen Z b0 : Int) := (i_eq rfl (i_nI (by omega))).mp c
  have hc2 := (not_congr (i_le (show (1048576 : Int32).toInt = 1048576 from rfl) rfl)).mp c2
  intro b h; cases e0.symm.trans h
  have t2 : ((I v0 3) * (2 : Int32)).toInt = (I v0 3).toInt * 2 := i_mul rfl (show (2 : Int32).toInt = 2 from rfl) (by omega) (by omega)
  have tn := i_nat t2 (by omega)
  have hcap : 2 * jlen Z b0 ≤ capN Z v0 := by
    rcases p2 with h | h
    · rw [h]
      have := pw_2 r2 (by omega)
      unfold pw at this
      omega
    · have := pw_17 r2 (by omega)
      rcases capN_cases Z v0 with h' | h' <;> omega
  have hpot : (capN Z v0 - jlen Z b0) / 64 ≤ potc Z := by
    have h := sum_one (l := Z.1) (f := fun a => if Z.2.1 a = 7 then (capN Z a - klen Z a) / 64 else 0) (g := fun x => if x = v0 then 0 else (if Z.2.1 x = 7 then (capN Z x - klen Z x) / 64 else 0)) (a := v0) w_I.2.1.1 kv0.1 (fun x _ hne => by simp [hne])
    have ka : klen Z v0 = jlen Z b0 := by unfold klen; rw [e0]
    simp only [if_true, kv0.2, ka] at h
    unfold potc
    omega
  have p64 := pw_64 r2
  have pc : capN Z v0 % 64 = 0 := by rcases capN_cases Z v0 with h | h <;> rw [h]
  obtain ⟨bd1, bd2⟩ := id bd
  unfold f_J7_copyOf_c38d5
  refine ⟨fun _ => ⟨⟨(not_congr (i_lt t2 z0)).mpr (by omega), by omega, by omega, by omega⟩, ?_⟩, fun c => ?_⟩
  · intro q hq Z4 eZ I5 eI L6 eL
    have hb4 : jlen Z4 b0 = jlen Z b0 := by rw [eZ]; exact (jext_nw hq b0 15 k0).2
    have hq4 : jlen Z4 q = ((I v0 3) * (2 : Int32)).toNatClampNeg := by rw [eZ]; exact jlen_nw
    have cond : ¬ ((I v0 3) * (2 : Int32)) < nI (jlen Z4 b0) := (not_congr (i_lt t2 (i_nI (by omega)))).mpr (by rw [hb4]; omega)
    rw [if_neg cond]
    have tq := i_nat (x := nI (jlen Z4 b0)) (i_nI (by omega)) (by omega)
    have t00 := i_nat (x := (0 : Int32)) z0 (by omega)
    refine ⟨⟨by decide, by decide, (not_congr (i_lt (i_nI (by omega)) z0)).mpr (by omega), by omega, by rw [hq4]; omega⟩, fun L9 e9 => ?_⟩
    dsimp only
    refine ⟨fun h => (by cases h), fun b h Z27 e27 => ?_⟩
    cases h
    obtain ⟨g1, g2, g3, g4⟩ := WD_grow (n := ((I v0 3) * (2 : Int32)).toNatClampNeg) w_I bd kv0 hq e0 (by omega) (by omega) (by omega)
    rw [← eZ, ← e27] at g1 g2 g3 g4
    rw [← eI] at g1 g3
    have Io : ∀ x, x ≠ q → I5 x = I x := fun x hx => by rw [eI]; exact va_up_ne _ _ hx
    have vq : v0 ≠ q := fun e => hq (e ▸ kv0.1)
    refine half Z27 I5 L9 g1 g2 g3 g4 (g3.1 v0 7 kv0).1 (by rw [Io v0 vq]) (fun b' hb => ?_) (fun x hk hn => by rw [Io x (fun e => hq (e ▸ hk.1))])
    rw [g3.2.1 v0 7 1 kv0 (by omega) (by omega)] at hb
    cases e1.symm.trans hb
    rw [Io b1 (fun e => hq (e ▸ k1.1)), Io v0 vq]
    exact p1 b1 e1
  · have := (i_eq t2 (i_nI (by omega))).mp c
    omega
theorem s_X7_begin {B : Nat × Nat} {T : Nat} {Z : jZ} {I : jI} {L : jL} (w_I : WD Z I) (bd : BUD B Z T) (v0 : Nat) (v1 : Int32) (v2 : Int64) (kv0 : jk Z v0 7) (p0 : 0 ≤ v1.toInt ∧ v1.toInt ≤ 24) {Q : jZ → jI → jL → Prop}
    (hQ : ∀ (Z' : jZ) (I' : jI) (L' : jL), WD Z' I' → BUD B Z' T → FR W7 Z I Z' I' → CP Z Z' → ((I' v0 3).toInt ≤ 1 ∧ RO v0 Z I I') → Q Z' I' L') : f_X7_begin B v0 v1 v2 Z I L Q := by
  obtain ⟨b0, b1, b2, b4, b5, e0, e1, e2, e4, e5, k0, k1, k2, k4, k5, n1, n2, n4, n5, n12, n14, n15, n24, n25, n45, r1, r2, r3, r4, r5, r6⟩ := rows_at w_I kv0
  have z0 : (0 : Int32).toInt = 0 := rfl
  have l2 : jlen Z b2 = 25 := by obtain ⟨b, e, -, l⟩ := sh_f w_I.1 kv0 (j := 2) (k := 14) (m := 25) rfl; cases e2.symm.trans e; exact l
  unfold f_X7_begin
  intro b h; cases e2.symm.trans h
  refine fill_raw (by omega) (fun I4 h1 h2 I8 q8 => ?_)
  have a3 : I8 v0 3 = 0 := by rw [q8, jpI_at]
  have ao : ∀ j, j ≠ 3 → I8 v0 j = I v0 j := fun j hj => by rw [q8, jpI_off hj, h1 v0 n2]
  have bo : ∀ x, x ≠ v0 → x ≠ b2 → I8 x = I x := fun x x0 x2 => by rw [q8, jpI_ne x0, h1 x x2]
  have c2 : ∀ p, p < 25 → I8 b2 p = 0 := fun p hp => by rw [q8, jpI_ne n2.symm, h2 p (by omega)]
  obtain ⟨g1, g2, g3⟩ := WD_rows (I' := I8) w_I kv0 e0 e1 e2 e4 e5 (fun x x0 x1 x2 x4 x5 => bo x x0 x2) (fun j j3 j8 j9 => ao j j3) (by
    unfold RI1
    rw [a3, ao 8 (by decide), ao 9 (by decide), bo b1 n1.symm n12, bo b4 n4.symm n24.symm, z0]
    refine ⟨by omega, r2, r3, fun p hp => ?_, r5, r6⟩
    rw [c2 p hp, z0]
    omega)
  refine s_X7_start g1 v0 v1 kv0 p0 (fun I11 L12 w2 f2 p2 => ?_)
  refine s_X7_push w2 bd v0 v1 v2 kv0 p0 p2.2.1 (Or.inr (by rw [p2.1, a3, z0]; omega)) (fun Z' I' L' w3 b3 f3 c3 p3 => ?_)
  refine hQ Z' I' L' w3 b3 (FR.trans w_I.1 w_I.2.1 g2 (FR.trans w_I.1 w_I.2.1 f2 f3)) c3 ⟨?_, RO.trans jext_rfl g3 (RO.trans jext_rfl p2.2.2 p3.2.2.2)⟩
  have := p3.2.1
  rw [p2.1, a3, z0] at this
  omega
/-- all Rows but two are filled as they were -/
def RO2 (a b : Nat) (Z : jZ) (I I' : jI) : Prop := ∀ x, jk Z x 7 → x ≠ a → x ≠ b → I' x 3 = I x 3
theorem RO2.rf {a b : Nat} {Z : jZ} {I : jI} : RO2 a b Z I I := fun _ _ _ _ => rfl
theorem RO2.trans {a b : Nat} {Z Z' : jZ} {I I' I'' : jI} (hx : jext Z Z') (h : RO2 a b Z I I') (h' : RO2 a b Z' I' I'') : RO2 a b Z I I'' := fun x hk hn hm => (h' x (hx x 7 hk).1 hn hm).trans (h x hk hn hm)
theorem RO2.a {a b : Nat} {Z : jZ} {I I' : jI} (h : RO a Z I I') : RO2 a b Z I I' := fun x hk hn _ => h x hk hn
theorem RO2.b {a b : Nat} {Z : jZ} {I I' : jI} (h : RO b Z I I') : RO2 a b Z I I' := fun x hk _ hm => h x hk hm
theorem RO2.fr {a b : Nat} {W : List (Nat × Nat)} {Z Z' : jZ} {I I' : jI} (f : FR W Z I Z' I') (hw : (7, 3) ∉ W) : RO2 a b Z I I' := fun x hk _ _ => f.2.2.1 x 7 3 hk (by decide) hw
/-- how far the rising rows of the pilgrims are filled: those below i, and the others -/
def RB (Z : jZ) (I : jI) (A : Nat) (n : Int) (i : Nat) (M1 M0 : Int) : Prop := ∀ (k : Nat) (p r b : Nat), (k : Int) < n → jr Z A k = some p → jr Z p 8 = some r → jr Z r 9 = some b → (I b 3).toInt ≤ if k < i then M1 else M0
theorem RB.of {Z : jZ} {I : jI} {A : Nat} {n M1 : Int} (w : WD Z I) (hA : jk Z A 18) : RB Z I A n 0 M1 1048576 := by
  intro k p r b hk e1 e2 e3
  have kp := w.1.2.1 A hA k p e1
  obtain ⟨r', e2', kr⟩ := sh_o w.1 kp (j := 8) (k := 6) rfl
  cases e2.symm.trans e2'
  obtain ⟨b', e3', kb⟩ := sh_o w.1 kr (j := 9) (k := 7) rfl
  cases e3.symm.trans e3'
  have := rw3 w kb
  rw [if_neg (by omega)]
  omega
theorem RB.all {Z : jZ} {I : jI} {A i : Nat} {n M1 M0 : Int} (h : RB Z I A n i M1 M0) (hi : n ≤ (i : Int)) : RB Z I A n 0 0 M1 := by
  intro k p r b hk e1 e2 e3
  have := h k p r b hk e1 e2 e3
  rw [if_pos (by omega)] at this
  rw [if_neg (by omega)]
  exact this
theorem RB.start {Z : jZ} {I : jI} {A : Nat} {n M1 M0 : Int} (h : RB Z I A n 0 0 M0) : RB Z I A n 0 M1 M0 := by
  intro k p r b hk e1 e2 e3
  have := h k p r b hk e1 e2 e3
  rw [if_neg (by omega)] at this ⊢
  exact this
theorem RB.fr {W : List (Nat × Nat)} {Z Z' : jZ} {I I' : jI} {A i : Nat} {n M1 M0 : Int} (w : WD Z I) (hA : jk Z A 18) (f : FR W Z I Z' I') (hw : (7, 3) ∉ W) (h : RB Z I A n i M1 M0) : RB Z' I' A n i M1 M0 := by
  intro k p r b hk e1 e2 e3
  rw [f.2.1 A 18 k hA (by omega) (by omega)] at e1
  have kp := w.1.2.1 A hA k p e1
  rw [f.2.1 p 5 8 kp (by omega) (by omega)] at e2
  obtain ⟨r', e2', kr⟩ := sh_o w.1 kp (j := 8) (k := 6) rfl
  cases e2.symm.trans e2'
  rw [f.2.1 r 6 9 kr (by omega) (by omega)] at e3
  obtain ⟨b', e3', kb⟩ := sh_o w.1 kr (j := 9) (k := 7) rfl
  cases e3.symm.trans e3'
  rw [f.2.2.1 b 7 3 kb (by decide) hw]
  exact h k p r b hk e1 e2 e3
theorem RB.step {W : List (Nat × Nat)} {Z Z' : jZ} {I I' : jI} {A i p r u9 u10 : Nat} {n M1 M0 : Int} (w : WD Z I) (hA : jk Z A 18) (f : FR W Z I Z' I') (hp : jr Z A i = some p) (hr : jr Z p 8 = some r) (h9 : jr Z r 9 = some u9) (h10 : jr Z r 10 = some u10) (ro : RO2 u9 u10 Z I I') (hb : (I' u9 3).toInt ≤ M1) (h : RB Z I A n i M1 M0) : RB Z' I' A n (i + 1) M1 M0 := by
  have kp := w.1.2.1 A hA i p hp
  obtain ⟨_, q1, kr⟩ := sh_o w.1 kp (j := 8) (k := 6) rfl
  cases hr.symm.trans q1
  intro k p' r' b' hk e1 e2 e3
  rw [f.2.1 A 18 k hA (by omega) (by omega)] at e1
  have kp' := w.1.2.1 A hA k p' e1
  rw [f.2.1 p' 5 8 kp' (by omega) (by omega)] at e2
  obtain ⟨_, q2, kr'⟩ := sh_o w.1 kp' (j := 8) (k := 6) rfl
  cases e2.symm.trans q2
  rw [f.2.1 r' 6 9 kr' (by omega) (by omega)] at e3
  obtain ⟨_, q3, kb'⟩ := sh_o w.1 kr' (j := 9) (k := 7) rfl
  cases e3.symm.trans q3
  by_cases hki : k = i
  · subst hki
    cases hp.symm.trans e1
    cases hr.symm.trans e2
    cases h9.symm.trans e3
    rw [if_pos (by omega)]
    exact hb
  · have n9 : b' ≠ u9 := fun q => by
      subst q
      obtain ⟨rfl, -⟩ := w.2.1.2.2 r' 6 9 r 6 9 b' kr' kr e3 h9 rfl rfl
      obtain ⟨rfl, -⟩ := w.2.1.2.2 p' 5 8 p 5 8 r' kp' kp e2 hr rfl rfl
      exact hki (w.2.1.2.2 A 18 k A 18 i p' hA hA e1 hp rfl rfl).2
    have n10 : b' ≠ u10 := fun q => by
      subst q
      have := (w.2.1.2.2 r' 6 9 r 6 10 b' kr' kr e3 h10 rfl rfl).2
      omega
    rw [ro b' kb' n9 n10]
    have := h k p' r' b' hk e1 e2 e3
    by_cases q : k < i
    · rw [if_pos q] at this; rw [if_pos (by omega)]; exact this
    · rw [if_neg q] at this; rw [if_neg (by omega)]; exact this
theorem i_01 {x : Int32} {A : Int} (hx : x.toInt = A) (h : A = 0 ∨ A = 1) : x = 0 ∨ x = 1 := by
  rcases h with h | h
  · exact Or.inl ((i_eq hx rfl).mpr h)
  · exact Or.inr ((i_eq hx rfl).mpr h)
theorem RB.skip {Z : jZ} {I : jI} {A i : Nat} {n M1 M0 : Int} (h : RB Z I A n i M1 M0) (hn : jr Z A i = none) : RB Z I A n (i + 1) M1 M0 := by
  intro k p r b hk e1 e2 e3
  have hki : k ≠ i := fun q => by subst q; rw [hn] at e1; cases e1
  have := h k p r b hk e1 e2 e3
  by_cases q : k < i
  · rw [if_pos q] at this; rw [if_pos (by omega)]; exact this
  · rw [if_neg q] at this; rw [if_neg (by omega)]; exact this
theorem i_succ {x y : Int32} (h0 : 0 ≤ y.toInt) (h : x.toInt = y.toInt + 1) : x.toNatClampNeg = y.toNatClampNeg + 1 := by
  have h1 := i_nat (x := x) rfl (by omega)
  have h2 := i_nat (x := y) rfl h0
  omega
end
section
set_option maxHeartbeats 4000000 in
set_option maxRecDepth 100000 in
theorem s_X6_moveTo {Z : jZ} {I : jI} {L : jL} (w_I : WD Z I) (v0 : Int32) (v1 : Int32) (p0 : 0 ≤ v0.toInt ∧ v0.toInt ≤ 24 ∧ 1 ≤ v1.toInt ∧ v1.toInt ≤ 3) {Q : Int32 → jI → jL → Prop} (hQ : ∀ (r : Int32), r.toInt = v0.toInt * 3 + v1.toInt - 1 → Q r I L) : f_X6_moveTo v0 v1 Z I L Q := by
  unfold f_X6_moveTo
  have rv0 := i_rng v0
  have rv1 := i_rng v1
  try (have t1 : (((v0 * (3 : Int32)) + v1) - (1 : Int32)).toInt = (((v0.toInt * (3)) + v1.toInt) - (1)) := (i_sub (i_add (i_mul rfl (show (3 : Int32).toInt = 3 from rfl) (by omega) (by omega)) rfl (by omega) (by omega)) (show (1 : Int32).toInt = 1 from rfl) (by omega) (by omega)))
  exact hQ (((v0 * (3 : Int32)) + v1) - (1 : Int32)) (by omega)
set_option maxHeartbeats 4000000 in
set_option maxRecDepth 100000 in
theorem s_X6_keyOf {Z : jZ} {I : jI} {L : jL} (w_I : WD Z I) (v0 : Nat) (v1 : Int32) (v2 : Int32) (kv0 : jk Z v0 6) (p0 : 0 ≤ v1.toInt ∧ v1.toInt ≤ 24 ∧ 1 ≤ v2.toInt ∧ v2.toInt ≤ 3) {Q : Int64 → jI → jL → Prop} (hQ : ∀ (r : Int64), Q r I L) : f_X6_keyOf v0 v1 v2 Z I L Q := by
  unfold f_X6_keyOf
  have rv1 := i_rng v1
  have rv2 := i_rng v2
  refine s_X6_moveTo w_I v1 v2   (by omega) (fun r1 p2 => ?_)
  have rr1 := i_rng r1
  intro b3 eb3
  obtain ⟨x4, ex4, kb3, lb3⟩ := sh_f w_I.1 kv0 (j := 4) (k := 14) (m := 75) rfl
  cases eb3.symm.trans ex4
  have o5 : vp_in r1 75 := vi_of rfl (by omega) (by omega)
  refine ⟨o5, ?_⟩
  have t6 : 0 ≤ (I b3 r1.toNatClampNeg).toInt ∧ (I b3 r1.toNatClampNeg).toInt ≤ 297 := w_I.arr 6 4 kv0 eb3 kb3 rfl rfl _
  intro b7 eb7
  obtain ⟨x8, ex8, kb7, lb7⟩ := sh_f w_I.1 kv0 (j := 5) (k := 14) (m := 75) rfl
  cases eb7.symm.trans ex8
  have o9 : vp_in r1 75 := vi_of rfl (by omega) (by omega)
  refine ⟨o9, ?_⟩
  try (have t10 : (v1 - (1 : Int32)).toInt = (v1.toInt - (1)) := (i_sub rfl (show (1 : Int32).toInt = 1 from rfl) (by omega) (by omega)))
  refine s_X11_bitOf w_I (v1 - (1 : Int32))    (fun r11  => ?_)
  exact hQ ((((((I b3 r1.toNatClampNeg).toInt64) <<< ((41 : Int32).toInt64 &&& 63)) + (((I b7 r1.toNatClampNeg).toInt64) <<< ((29 : Int32).toInt64 &&& 63))) + (16777216 : Int64)) - r11) 
def Ws_X6_feed : List (Nat × Nat) := [(7, 1), (7, 2), (7, 3), (7, 4), (7, 5), (7, 8), (7, 9)]
set_option maxHeartbeats 4000000 in
set_option maxRecDepth 100000 in
theorem l_X6_feed_L8 {Z : jZ} {I0 : jI} {Q : jI → jL → Prop} (w0 : WD Z I0) (v0 : Nat) (v1 : Nat) (v2 : Int32) (v3 : Int64) (v5 : Int32) (kv0 : jk Z v0 6) (kv1 : jk Z v1 7) (p0 : 1 ≤ v2.toInt ∧ v2.toInt ≤ 24) (hQ : ∀  (I' : jI) (L' : jL), WD Z I' → FR Ws_X6_feed Z I0 Z I' → ((I' v1 3).toInt = (I0 v1 3).toInt ∧ FI Z I' v1 v2.toNatClampNeg ∧ RO v1 Z I0 I') → Q I' L') : ∀ (n : Nat) (v6 : Int32) (I : jI) (L : jL), WD Z I → FR Ws_X6_feed Z I0 Z I →   ((1 ≤ v6.toInt ∧ v6.toInt ≤ 4) ∧ (I v1 3).toInt = (I0 v1 3).toInt ∧ FI Z I v1 v2.toNatClampNeg ∧ RO v1 Z I0 I) → 4 - v6.toInt < (n : Int) → f_X6_feed_L8  Z Q n v0 v1 v2 v3 v5 v6 I L := by
  intro n
  induction n with
  | zero =>
    intro v6 I L w_I q_I   li  me
    exfalso
    omega
  | succ n ih =>
    intro v6 I L w_I q_I   li  me
    unfold f_X6_feed_L8
    have rv6 := i_rng v6
    have rv2 := i_rng v2
    have rv5 := i_rng v5
    obtain ⟨li0, li1, li2, li3⟩ := li
    have ro_I := li3
    have t2 : 0 ≤ (I v0 3).toInt ∧ (I v0 3).toInt ≤ 3 := w_I.fld 6 3 kv0 (by decide)
    refine ⟨fun c3 => ?_, fun c3 => ?_⟩
    · skip
      first | (have t4 : (I v0 3).toInt < v6.toInt := (i_lt rfl rfl).mp c3) | (have t4 : (I v0 3).toInt < v6.toInt := (i_lt rfl rfl).mp c3) | skip
      exact hQ  I L w_I q_I (by refine ⟨?_, ?_, ?_⟩; (omega); (first | assumption | solve_by_elim); exact ro_I)
    · skip
      first | (have t5 : ¬ ((I v0 3).toInt < v6.toInt) := (not_congr (i_lt rfl rfl)).mp c3) | (have t5 : ¬ ((I v0 3).toInt < v6.toInt) := (not_congr (i_lt rfl rfl)).mp c3) | skip
      refine ⟨fun c6 => ?_, fun c6 => ?_⟩
      · skip
        first | (have t7 : v2.toInt < v6.toInt := (i_lt rfl rfl).mp c6) | (have t7 : v2.toInt < v6.toInt := (i_lt rfl rfl).mp c6) | skip
        exact hQ  I L w_I q_I (by refine ⟨?_, ?_, ?_⟩; (omega); (first | assumption | solve_by_elim); exact ro_I)
      · skip
        first | (have t8 : ¬ (v2.toInt < v6.toInt) := (not_congr (i_lt rfl rfl)).mp c6) | (have t8 : ¬ (v2.toInt < v6.toInt) := (not_congr (i_lt rfl rfl)).mp c6) | skip
        intro b9 eb9
        obtain ⟨x10, ex10, kb9, lb9⟩ := sh_f w_I.1 kv0 (j := 6) (k := 16) (m := 25) rfl
        cases eb9.symm.trans ex10
        have o11 : vp_in v2 25 := vi_of rfl (by omega) (by omega)
        refine ⟨o11, ?_⟩
        refine ⟨fun c12 => ?_, fun c12 => ?_⟩
        · skip
          first | (have t13 : (I b9 v2.toNatClampNeg).toInt = (0) := (i_eq rfl (show (0 : Int32).toInt = 0 from rfl)).mp c12) | (have t13 : (I b9 v2.toNatClampNeg).toInt = (0 : Int32).toInt := (i_eq rfl rfl).mp c12) | skip
          exact hQ  I L w_I q_I (by refine ⟨?_, ?_, ?_⟩; (omega); (first | assumption | solve_by_elim); exact ro_I)
        · skip
          first | (have t14 : ¬ ((I b9 v2.toNatClampNeg).toInt = (0)) := (not_congr (i_eq rfl (show (0 : Int32).toInt = 0 from rfl))).mp c12) | (have t14 : ¬ ((I b9 v2.toNatClampNeg).toInt = (0 : Int32).toInt) := (not_congr (i_eq rfl rfl)).mp c12) | skip
          refine ⟨fun c15 => ?_, fun c15 => ?_⟩
          · skip
            first | (have t16 : (v5.toInt + (1)) ≤ (v2.toInt - v6.toInt) := (i_le (i_add rfl (show (1 : Int32).toInt = 1 from rfl) (by omega) (by omega)) (i_sub rfl rfl (by omega) (by omega))).mp c15) | (have t16 : (v5 + (1 : Int32)).toInt ≤ (v2 - v6).toInt := (i_le rfl rfl).mp c15) | skip
            unfold f_X6_feed_b55
            unfold f_X6_feed_b56
            refine ⟨fun c17 => ?_, fun c17 => ?_⟩
            · skip
              first | (have t18 : ¬ ((0) = (0)) := (not_congr (i_eq (show (0 : Int32).toInt = 0 from rfl) (show (0 : Int32).toInt = 0 from rfl))).mp c17) | (have t18 : ¬ ((0 : Int32).toInt = (0 : Int32).toInt) := (not_congr (i_eq rfl rfl)).mp c17) | skip
              unfold f_X6_feed_b80
              intro x19 ex19
              have rx19 := i_rng x19
              first | (have tx19 : x19.toInt = v6.toInt + (1) := by (rw [ex19]; exact (i_add rfl (show (1 : Int32).toInt = 1 from rfl) (by omega) (by omega)))) | skip
              exact ih x19 I L w_I q_I   (by refine ⟨?_, ?_, ?_, ?_⟩; (omega); (omega); (first | assumption | solve_by_elim); exact ro_I)  (by omega)
            · skip
              first | (have t20 : (0) = (0) := (i_eq (show (0 : Int32).toInt = 0 from rfl) (show (0 : Int32).toInt = 0 from rfl)).mp c17) | (have t20 : (0 : Int32).toInt = (0 : Int32).toInt := (i_eq rfl rfl).mp c17) | skip
              refine s_X6_keyOf w_I v0 v2 v6 kv0  (by omega) (fun r21  => ?_)
              try (have t22 : (v2 - v6).toInt = (v2.toInt - v6.toInt) := (i_sub rfl rfl (by omega) (by omega)))
              refine s_X7_merge w_I v1 (v2 - v6) (r21 &&& v3) kv1   (fun  I24 L25 w_I24 f_I24 p23 => ?_)
              have q_I24 : FR Ws_X6_feed Z I0 Z I24 := q_I.trans w0.1 w0.2.1 (f_I24.mono (by decide))
              have u26 : (I24 v0 3).toInt = (I v0 3).toInt := by rw [f_I24.2.2.1 v0 6 3 kv0 (by decide) (by decide)]
              obtain ⟨p23_0, p23_1, p23_2⟩ := p23
              have ro_I24 : RO v1 Z I0 I24 := RO.trans q_I.1 ro_I p23_2
              unfold f_X6_feed_b80
              intro x27 ex27
              have rx27 := i_rng x27
              first | (have tx27 : x27.toInt = v6.toInt + (1) := by (rw [ex27]; exact (i_add rfl (show (1 : Int32).toInt = 1 from rfl) (by omega) (by omega)))) | skip
              exact ih x27 I24 L25 w_I24 q_I24   (by refine ⟨?_, ?_, ?_, ?_⟩; (omega); (omega); (first | assumption | solve_by_elim); exact ro_I24)  (by omega)
          · skip
            first | (have t28 : ¬ ((v5.toInt + (1)) ≤ (v2.toInt - v6.toInt)) := (not_congr (i_le (i_add rfl (show (1 : Int32).toInt = 1 from rfl) (by omega) (by omega)) (i_sub rfl rfl (by omega) (by omega)))).mp c15) | (have t28 : ¬ ((v5 + (1 : Int32)).toInt ≤ (v2 - v6).toInt) := (not_congr (i_le rfl rfl)).mp c15) | skip
            refine ⟨fun c29 => ?_, fun c29 => ?_⟩
            · skip
              first | (have t30 : v2.toInt ≤ (v5.toInt + (1)) := (i_le rfl (i_add rfl (show (1 : Int32).toInt = 1 from rfl) (by omega) (by omega))).mp c29) | (have t30 : v2.toInt ≤ (v5 + (1 : Int32)).toInt := (i_le rfl rfl).mp c29) | skip
              unfold f_X6_feed_b55
              unfold f_X6_feed_b56
              refine ⟨fun c31 => ?_, fun c31 => ?_⟩
              · skip
                first | (have t32 : ¬ ((0) = (0)) := (not_congr (i_eq (show (0 : Int32).toInt = 0 from rfl) (show (0 : Int32).toInt = 0 from rfl))).mp c31) | (have t32 : ¬ ((0 : Int32).toInt = (0 : Int32).toInt) := (not_congr (i_eq rfl rfl)).mp c31) | skip
                unfold f_X6_feed_b80
                intro x33 ex33
                have rx33 := i_rng x33
                first | (have tx33 : x33.toInt = v6.toInt + (1) := by (rw [ex33]; exact (i_add rfl (show (1 : Int32).toInt = 1 from rfl) (by omega) (by omega)))) | skip
                exact ih x33 I L w_I q_I   (by refine ⟨?_, ?_, ?_, ?_⟩; (omega); (omega); (first | assumption | solve_by_elim); exact ro_I)  (by omega)
              · skip
                first | (have t34 : (0) = (0) := (i_eq (show (0 : Int32).toInt = 0 from rfl) (show (0 : Int32).toInt = 0 from rfl)).mp c31) | (have t34 : (0 : Int32).toInt = (0 : Int32).toInt := (i_eq rfl rfl).mp c31) | skip
                refine s_X6_keyOf w_I v0 v2 v6 kv0  (by omega) (fun r35  => ?_)
                try (have t36 : (v2 - v6).toInt = (v2.toInt - v6.toInt) := (i_sub rfl rfl (by omega) (by omega)))
                refine s_X7_merge w_I v1 (v2 - v6) (r35 &&& v3) kv1   (fun  I38 L39 w_I38 f_I38 p37 => ?_)
                have q_I38 : FR Ws_X6_feed Z I0 Z I38 := q_I.trans w0.1 w0.2.1 (f_I38.mono (by decide))
                have u40 : (I38 v0 3).toInt = (I v0 3).toInt := by rw [f_I38.2.2.1 v0 6 3 kv0 (by decide) (by decide)]
                obtain ⟨p37_0, p37_1, p37_2⟩ := p37
                have ro_I38 : RO v1 Z I0 I38 := RO.trans q_I.1 ro_I p37_2
                unfold f_X6_feed_b80
                intro x41 ex41
                have rx41 := i_rng x41
                first | (have tx41 : x41.toInt = v6.toInt + (1) := by (rw [ex41]; exact (i_add rfl (show (1 : Int32).toInt = 1 from rfl) (by omega) (by omega)))) | skip
                exact ih x41 I38 L39 w_I38 q_I38   (by refine ⟨?_, ?_, ?_, ?_⟩; (omega); (omega); (first | assumption | solve_by_elim); exact ro_I38)  (by omega)
            · skip
              first | (have t42 : ¬ (v2.toInt ≤ (v5.toInt + (1))) := (not_congr (i_le rfl (i_add rfl (show (1 : Int32).toInt = 1 from rfl) (by omega) (by omega)))).mp c29) | (have t42 : ¬ (v2.toInt ≤ (v5 + (1 : Int32)).toInt) := (not_congr (i_le rfl rfl)).mp c29) | skip
              unfold f_X6_feed_b56
              refine ⟨fun c43 => ?_, fun c43 => ?_⟩
              · skip
                first | (have t44 : ¬ ((1) = (0)) := (not_congr (i_eq (show (1 : Int32).toInt = 1 from rfl) (show (0 : Int32).toInt = 0 from rfl))).mp c43) | (have t44 : ¬ ((1 : Int32).toInt = (0 : Int32).toInt) := (not_congr (i_eq rfl rfl)).mp c43) | skip
                unfold f_X6_feed_b80
                intro x45 ex45
                have rx45 := i_rng x45
                first | (have tx45 : x45.toInt = v6.toInt + (1) := by (rw [ex45]; exact (i_add rfl (show (1 : Int32).toInt = 1 from rfl) (by omega) (by omega)))) | skip
                exact ih x45 I L w_I q_I   (by refine ⟨?_, ?_, ?_, ?_⟩; (omega); (omega); (first | assumption | solve_by_elim); exact ro_I)  (by omega)
              · skip
                first | (have t46 : (1) = (0) := (i_eq (show (1 : Int32).toInt = 1 from rfl) (show (0 : Int32).toInt = 0 from rfl)).mp c43) | (have t46 : (1 : Int32).toInt = (0 : Int32).toInt := (i_eq rfl rfl).mp c43) | skip
                refine s_X6_keyOf w_I v0 v2 v6 kv0  (by omega) (fun r47  => ?_)
                try (have t48 : (v2 - v6).toInt = (v2.toInt - v6.toInt) := (i_sub rfl rfl (by omega) (by omega)))
                refine s_X7_merge w_I v1 (v2 - v6) (r47 &&& v3) kv1   (fun  I50 L51 w_I50 f_I50 p49 => ?_)
                have q_I50 : FR Ws_X6_feed Z I0 Z I50 := q_I.trans w0.1 w0.2.1 (f_I50.mono (by decide))
                have u52 : (I50 v0 3).toInt = (I v0 3).toInt := by rw [f_I50.2.2.1 v0 6 3 kv0 (by decide) (by decide)]
                obtain ⟨p49_0, p49_1, p49_2⟩ := p49
                have ro_I50 : RO v1 Z I0 I50 := RO.trans q_I.1 ro_I p49_2
                unfold f_X6_feed_b80
                intro x53 ex53
                have rx53 := i_rng x53
                first | (have tx53 : x53.toInt = v6.toInt + (1) := by (rw [ex53]; exact (i_add rfl (show (1 : Int32).toInt = 1 from rfl) (by omega) (by omega)))) | skip
                exact ih x53 I50 L51 w_I50 q_I50   (by refine ⟨?_, ?_, ?_, ?_⟩; (omega); (omega); (first | assumption | solve_by_elim); exact ro_I50)  (by omega)
set_option maxHeartbeats 4000000 in
set_option maxRecDepth 100000 in
theorem s_X6_feed {Z : jZ} {I : jI} {L : jL} (w_I : WD Z I) (v0 : Nat) (v1 : Nat) (v2 : Int32) (v3 : Int64) (v5 : Int32) (kv0 : jk Z v0 6) (kv1 : jk Z v1 7) (p0 : 1 ≤ v2.toInt ∧ v2.toInt ≤ 24) {Q : jI → jL → Prop} (hQ : ∀  (I' : jI) (L' : jL), WD Z I' → FR Ws_X6_feed Z I Z I' → ((I' v1 3).toInt = (I v1 3).toInt ∧ FI Z I' v1 v2.toNatClampNeg ∧ RO v1 Z I I') → Q I' L') : f_X6_feed v0 v1 v2 v3 v5 Z I L Q := by
  unfold f_X6_feed
  have q_I : FR Ws_X6_feed Z I Z I := FR.rf
  have ro_I : RO v1 Z I I := RO.rf
  have rv2 := i_rng v2
  have rv5 := i_rng v5
  refine s_X7_start w_I v1 v2 kv1  (by omega) (fun  I55 L56 w_I55 f_I55 p54 => ?_)
  have q_I55 : FR Ws_X6_feed Z I Z I55 := q_I.trans w_I.1 w_I.2.1 (f_I55.mono (by decide))
  obtain ⟨p54_0, p54_1, p54_2⟩ := p54
  have ro_I55 : RO v1 Z I I55 := RO.trans q_I.1 ro_I p54_2
  have t57 : (1 : Int32).toInt = 1 := rfl
  exact ⟨(4 - (1 : Int32).toInt).toNat + 1, l_X6_feed_L8 w_I v0 v1 v2 v3 v5 kv0 kv1 p0   hQ   _ (1 : Int32) I55 L56 w_I55 q_I55   (by refine ⟨?_, ?_, ?_, ?_⟩; (omega); (omega); (first | assumption | solve_by_elim); exact ro_I55)  (by omega)⟩
def Ws_X0_addReach : List (Nat × Nat) := []
set_option maxHeartbeats 4000000 in
set_option maxRecDepth 100000 in
theorem l_X0_addReach_L16 {Z : jZ} {I0 : jI} {Q : jI → jL → Prop} (w0 : WD Z I0) (v0 : Nat) (v1 : Int32) (v2 : Int32) (v3 : Int32) (kv0 : jk Z v0 0) (p0 : 0 ≤ v1.toInt ∧ v1.toInt ≤ 24 ∧ 0 ≤ v2.toInt ∧ v2.toInt ≤ 24 ∧ 0 ≤ v3.toInt) (v4 : Int32) (v5 : Int32) (hQ : ∀  (I' : jI) (L' : jL), WD Z I' → FR Ws_X0_addReach Z I0 Z I' → Q I' L') : ∀ (n : Nat) (v6 : Int32) (I : jI) (L : jL), WD Z I → FR Ws_X0_addReach Z I0 Z I →   (-1 ≤ v6.toInt ∧ v6.toInt ≤ 15 ∧ 0 ≤ v4.toInt) → v6.toInt + 1 < (n : Int) → f_X0_addReach_L16  Z Q n v0 v1 v2 v4 v5 v6 I L := by
  intro n
  induction n with
  | zero =>
    intro v6 I L w_I q_I   li  me
    exfalso
    omega
  | succ n ih =>
    intro v6 I L w_I q_I   li  me
    unfold f_X0_addReach_L16
    have rv6 := i_rng v6
    have rv4 := i_rng v4
    have rv5 := i_rng v5
    have rv1 := i_rng v1
    have rv2 := i_rng v2
    have rv3 := i_rng v3
    refine ⟨fun c1 => ?_, fun c1 => ?_⟩
    · skip
      first | (have t2 : v6.toInt < v4.toInt := (i_lt rfl rfl).mp c1) | (have t2 : v6.toInt < v4.toInt := (i_lt rfl rfl).mp c1) | skip
      exact hQ  I L w_I q_I 
    · skip
      first | (have t3 : ¬ (v6.toInt < v4.toInt) := (not_congr (i_lt rfl rfl)).mp c1) | (have t3 : ¬ (v6.toInt < v4.toInt) := (not_congr (i_lt rfl rfl)).mp c1) | skip
      refine ⟨fun c4 => ?_, fun c4 => ?_⟩
      · skip
        first | (have t5 : v6.toInt < (0) := (i_lt rfl (show (0 : Int32).toInt = 0 from rfl)).mp c4) | (have t5 : v6.toInt < (0 : Int32).toInt := (i_lt rfl rfl).mp c4) | skip
        exact hQ  I L w_I q_I 
      · skip
        first | (have t6 : ¬ (v6.toInt < (0)) := (not_congr (i_lt rfl (show (0 : Int32).toInt = 0 from rfl))).mp c4) | (have t6 : ¬ (v6.toInt < (0 : Int32).toInt) := (not_congr (i_lt rfl rfl)).mp c4) | skip
        intro b7 eb7
        obtain ⟨x8, ex8, kb7, lb7⟩ := sh_f w_I.1 kv0 (j := 1) (k := 15) (m := 400) rfl
        cases eb7.symm.trans ex8
        have o9 : vp_in (((v2 * (16 : Int32)) + v6) - v4) 400 := vi_of (i_sub (i_add (i_mul rfl (show (16 : Int32).toInt = 16 from rfl) (by omega) (by omega)) rfl (by omega) (by omega)) rfl (by omega) (by omega)) (by omega) (by omega)
        refine ⟨o9, ?_⟩
        intro x10 ex10
        refine ⟨fun c11 => ?_, fun c11 => ?_⟩
        · skip
          first | (have t12 : v5.toInt ≤ (0) := (i_le rfl (show (0 : Int32).toInt = 0 from rfl)).mp c11) | (have t12 : v5.toInt ≤ (0 : Int32).toInt := (i_le rfl rfl).mp c11) | skip
          unfold f_X0_addReach_b88
          intro b13 eb13
          obtain rfl : b7 = b13 := Option.some.inj (eb7.symm.trans eb13)
          have o14 : vp_in ((v1 * (16 : Int32)) + v6) 400 := vi_of (i_add (i_mul rfl (show (16 : Int32).toInt = 16 from rfl) (by omega) (by omega)) rfl (by omega) (by omega)) (by omega) (by omega)
          refine ⟨o14, ?_⟩
          have o15 : vp_in ((v1 * (16 : Int32)) + v6) 400 := vi_of (i_add (i_mul rfl (show (16 : Int32).toInt = 16 from rfl) (by omega) (by omega)) rfl (by omega) (by omega)) (by omega) (by omega)
          refine ⟨o15, ?_⟩
          intro L16 eL16
          intro x17 ex17
          have rx17 := i_rng x17
          first | (have tx17 : x17.toInt = v6.toInt + (-1) := by (rw [ex17]; exact (i_add rfl (show (-1 : Int32).toInt = -1 from rfl) (by omega) (by omega)))) | skip
          exact ih x17 I L16 w_I q_I   (by omega)  (by omega)
        · skip
          first | (have t18 : ¬ (v5.toInt ≤ (0)) := (not_congr (i_le rfl (show (0 : Int32).toInt = 0 from rfl))).mp c11) | (have t18 : ¬ (v5.toInt ≤ (0 : Int32).toInt) := (not_congr (i_le rfl rfl)).mp c11) | skip
          refine ⟨fun c19 => ?_, fun c19 => ?_⟩
          · skip
            first | (have t20 : v6.toInt ≤ v4.toInt := (i_le rfl rfl).mp c19) | (have t20 : v6.toInt ≤ v4.toInt := (i_le rfl rfl).mp c19) | skip
            unfold f_X0_addReach_b88
            intro b21 eb21
            obtain rfl : b7 = b21 := Option.some.inj (eb7.symm.trans eb21)
            have o22 : vp_in ((v1 * (16 : Int32)) + v6) 400 := vi_of (i_add (i_mul rfl (show (16 : Int32).toInt = 16 from rfl) (by omega) (by omega)) rfl (by omega) (by omega)) (by omega) (by omega)
            refine ⟨o22, ?_⟩
            have o23 : vp_in ((v1 * (16 : Int32)) + v6) 400 := vi_of (i_add (i_mul rfl (show (16 : Int32).toInt = 16 from rfl) (by omega) (by omega)) rfl (by omega) (by omega)) (by omega) (by omega)
            refine ⟨o23, ?_⟩
            intro L24 eL24
            intro x25 ex25
            have rx25 := i_rng x25
            first | (have tx25 : x25.toInt = v6.toInt + (-1) := by (rw [ex25]; exact (i_add rfl (show (-1 : Int32).toInt = -1 from rfl) (by omega) (by omega)))) | skip
            exact ih x25 I L24 w_I q_I   (by omega)  (by omega)
          · skip
            first | (have t26 : ¬ (v6.toInt ≤ v4.toInt) := (not_congr (i_le rfl rfl)).mp c19) | (have t26 : ¬ (v6.toInt ≤ v4.toInt) := (not_congr (i_le rfl rfl)).mp c19) | skip
            intro b27 eb27
            obtain rfl : b7 = b27 := Option.some.inj (eb7.symm.trans eb27)
            have o28 : vp_in ((((v2 * (16 : Int32)) + v6) - v4) - (1 : Int32)) 400 := vi_of (i_sub (i_sub (i_add (i_mul rfl (show (16 : Int32).toInt = 16 from rfl) (by omega) (by omega)) rfl (by omega) (by omega)) rfl (by omega) (by omega)) (show (1 : Int32).toInt = 1 from rfl) (by omega) (by omega)) (by omega) (by omega)
            refine ⟨o28, ?_⟩
            intro x29 ex29
            unfold f_X0_addReach_b88
            intro b30 eb30
            obtain rfl : b7 = b30 := Option.some.inj (eb7.symm.trans eb30)
            have o31 : vp_in ((v1 * (16 : Int32)) + v6) 400 := vi_of (i_add (i_mul rfl (show (16 : Int32).toInt = 16 from rfl) (by omega) (by omega)) rfl (by omega) (by omega)) (by omega) (by omega)
            refine ⟨o31, ?_⟩
            have o32 : vp_in ((v1 * (16 : Int32)) + v6) 400 := vi_of (i_add (i_mul rfl (show (16 : Int32).toInt = 16 from rfl) (by omega) (by omega)) rfl (by omega) (by omega)) (by omega) (by omega)
            refine ⟨o32, ?_⟩
            intro L33 eL33
            intro x34 ex34
            have rx34 := i_rng x34
            first | (have tx34 : x34.toInt = v6.toInt + (-1) := by (rw [ex34]; exact (i_add rfl (show (-1 : Int32).toInt = -1 from rfl) (by omega) (by omega)))) | skip
            exact ih x34 I L33 w_I q_I   (by omega)  (by omega)
set_option maxHeartbeats 4000000 in
set_option maxRecDepth 100000 in
theorem s_X0_addReach {Z : jZ} {I : jI} {L : jL} (w_I : WD Z I) (v0 : Nat) (v1 : Int32) (v2 : Int32) (v3 : Int32) (kv0 : jk Z v0 0) (p0 : 0 ≤ v1.toInt ∧ v1.toInt ≤ 24 ∧ 0 ≤ v2.toInt ∧ v2.toInt ≤ 24 ∧ 0 ≤ v3.toInt) {Q : jI → jL → Prop} (hQ : ∀  (I' : jI) (L' : jL), WD Z I' → FR Ws_X0_addReach Z I Z I' → Q I' L') : f_X0_addReach v0 v1 v2 v3 Z I L Q := by
  unfold f_X0_addReach
  have q_I : FR Ws_X0_addReach Z I Z I := FR.rf
  have rv1 := i_rng v1
  have rv2 := i_rng v2
  have rv3 := i_rng v3
  intro x35 ex35
  have rx35 := i_rng x35
  first | (have tx35 : x35.toInt = (v3.toInt / (64)) := by (rw [ex35]; exact (i_div rfl (show (64 : Int32).toInt = 64 from rfl) (by omega) (by omega)))) | (have tx35 : x35.toInt = (v3 / (64 : Int32)).toInt := by rw [ex35])
  intro x36 ex36
  have rx36 := i_rng x36
  first | (have tx36 : x36.toInt = (v3.toInt % (64)) := by (rw [ex36]; exact (i_rem rfl (show (64 : Int32).toInt = 64 from rfl) (by omega) (by omega)))) | (have tx36 : x36.toInt = (v3 - v3 / (64 : Int32) * (64 : Int32)).toInt := by rw [ex36])
  have t37 : (15 : Int32).toInt = 15 := rfl
  exact ⟨((15 : Int32).toInt + 1).toNat + 1, l_X0_addReach_L16 w_I v0 v1 v2 v3 kv0 p0 x35 x36  hQ   _ (15 : Int32) I L w_I q_I   (by omega)  (by omega)⟩
def Ws_X0_findReach : List (Nat × Nat) := []
set_option maxHeartbeats 4000000 in
set_option maxRecDepth 100000 in
theorem l_X0_findReach_L34 {Z : jZ} {I0 : jI} {Q : jI → jL → Prop} (w0 : WD Z I0) (v0 : Nat) (v1 : Nat) (kv0 : jk Z v0 0) (kv1 : jk Z v1 6) (v2 : Int32) (hQ : ∀  (I' : jI) (L' : jL), WD Z I' → FR Ws_X0_findReach Z I0 Z I' → Q I' L') {K28 : Nat → Nat → Int32 → jI → jL → Prop} {N28 : Int} (hK28 : ∀ (v2 : Int32) (I : jI) (L : jL), WD Z I → FR Ws_X0_findReach Z I0 Z I →   (-1 ≤ v2.toInt ∧ v2.toInt ≤ 23) → v2.toInt + 1 < N28 → K28 v0 v1 v2 I L) : ∀ (n : Nat) (v3 : Int32) (I : jI) (L : jL), WD Z I → FR Ws_X0_findReach Z I0 Z I →   (0 ≤ v2.toInt ∧ v2.toInt ≤ 23 ∧ 1 ≤ v3.toInt ∧ v3.toInt ≤ 4) → v2.toInt + 1 ≤ N28 → 4 - v3.toInt < (n : Int) → f_X0_findReach_L34 K28 Z Q n v0 v1 v2 v3 I L := by
  intro n
  induction n with
  | zero =>
    intro v3 I L w_I q_I   li hm28 me
    exfalso
    omega
  | succ n ih =>
    intro v3 I L w_I q_I   li hm28 me
    unfold f_X0_findReach_L34
    have rv3 := i_rng v3
    have rv2 := i_rng v2
    have t2 : 0 ≤ (I v1 3).toInt ∧ (I v1 3).toInt ≤ 3 := w_I.fld 6 3 kv1 (by decide)
    refine ⟨fun c3 => ?_, fun c3 => ?_⟩
    · skip
      first | (have t4 : (I v1 3).toInt < v3.toInt := (i_lt rfl rfl).mp c3) | (have t4 : (I v1 3).toInt < v3.toInt := (i_lt rfl rfl).mp c3) | skip
      unfold f_X0_findReach_b89
      intro x5 ex5
      have rx5 := i_rng x5
      first | (have tx5 : x5.toInt = v2.toInt + (-1) := by (rw [ex5]; exact (i_add rfl (show (-1 : Int32).toInt = -1 from rfl) (by omega) (by omega)))) | skip
      exact hK28 x5 I L w_I q_I   (by omega)  (by omega)
    · skip
      first | (have t6 : ¬ ((I v1 3).toInt < v3.toInt) := (not_congr (i_lt rfl rfl)).mp c3) | (have t6 : ¬ ((I v1 3).toInt < v3.toInt) := (not_congr (i_lt rfl rfl)).mp c3) | skip
      have t8 : 0 ≤ (I v1 15).toInt ∧ (I v1 15).toInt ≤ 24 := w_I.fld 6 15 kv1 (by decide)
      refine ⟨fun c9 => ?_, fun c9 => ?_⟩
      · skip
        first | (have t10 : (I v1 15).toInt < (v2.toInt + v3.toInt) := (i_lt rfl (i_add rfl rfl (by omega) (by omega))).mp c9) | (have t10 : (I v1 15).toInt < (v2 + v3).toInt := (i_lt rfl rfl).mp c9) | skip
        unfold f_X0_findReach_b89
        intro x11 ex11
        have rx11 := i_rng x11
        first | (have tx11 : x11.toInt = v2.toInt + (-1) := by (rw [ex11]; exact (i_add rfl (show (-1 : Int32).toInt = -1 from rfl) (by omega) (by omega)))) | skip
        exact hK28 x11 I L w_I q_I   (by omega)  (by omega)
      · skip
        first | (have t12 : ¬ ((I v1 15).toInt < (v2.toInt + v3.toInt)) := (not_congr (i_lt rfl (i_add rfl rfl (by omega) (by omega)))).mp c9) | (have t12 : ¬ ((I v1 15).toInt < (v2 + v3).toInt) := (not_congr (i_lt rfl rfl)).mp c9) | skip
        intro b13 eb13
        obtain ⟨x14, ex14, kb13, lb13⟩ := sh_f w_I.1 kv1 (j := 6) (k := 16) (m := 25) rfl
        cases eb13.symm.trans ex14
        have o15 : vp_in (v2 + v3) 25 := vi_of (i_add rfl rfl (by omega) (by omega)) (by omega) (by omega)
        refine ⟨o15, ?_⟩
        refine ⟨fun c16 => ?_, fun c16 => ?_⟩
        · skip
          first | (have t17 : (I b13 (v2 + v3).toNatClampNeg).toInt = (0) := (i_eq rfl (show (0 : Int32).toInt = 0 from rfl)).mp c16) | (have t17 : (I b13 (v2 + v3).toNatClampNeg).toInt = (0 : Int32).toInt := (i_eq rfl rfl).mp c16) | skip
          unfold f_X0_findReach_b83
          intro x18 ex18
          have rx18 := i_rng x18
          first | (have tx18 : x18.toInt = v3.toInt + (1) := by (rw [ex18]; exact (i_add rfl (show (1 : Int32).toInt = 1 from rfl) (by omega) (by omega)))) | skip
          exact ih x18 I L w_I q_I   (by omega) (by omega) (by omega)
        · skip
          first | (have t19 : ¬ ((I b13 (v2 + v3).toNatClampNeg).toInt = (0)) := (not_congr (i_eq rfl (show (0 : Int32).toInt = 0 from rfl))).mp c16) | (have t19 : ¬ ((I b13 (v2 + v3).toNatClampNeg).toInt = (0 : Int32).toInt) := (not_congr (i_eq rfl rfl)).mp c16) | skip
          intro b20 eb20
          obtain ⟨x21, ex21, kb20, lb20⟩ := sh_f w_I.1 kv1 (j := 4) (k := 14) (m := 75) rfl
          cases eb20.symm.trans ex21
          try (have t22 : (v2 + v3).toInt = (v2.toInt + v3.toInt) := (i_add rfl rfl (by omega) (by omega)))
          refine s_X6_moveTo w_I (v2 + v3) v3   (by omega) (fun r23 p24 => ?_)
          have rr23 := i_rng r23
          have o25 : vp_in r23 75 := vi_of rfl (by omega) (by omega)
          refine ⟨o25, ?_⟩
          have t26 : 0 ≤ (I b20 r23.toNatClampNeg).toInt ∧ (I b20 r23.toNatClampNeg).toInt ≤ 297 := w_I.arr 6 4 kv1 eb20 kb20 rfl rfl _
          try (have t27 : (v2 + v3).toInt = (v2.toInt + v3.toInt) := (i_add rfl rfl (by omega) (by omega)))
          refine s_X0_addReach w_I v0 v2 (v2 + v3) (I b20 r23.toNatClampNeg) kv0  (by omega) (fun  I28 L29 w_I28 f_I28  => ?_)
          have q_I28 : FR Ws_X0_findReach Z I0 Z I28 := q_I.trans w0.1 w0.2.1 (f_I28.mono (by decide))
          have u30 : (I28 v1 3).toInt = (I v1 3).toInt := by rw [f_I28.2.2.1 v1 6 3 kv1 (by decide) (by decide)]
          have u31 : (I28 v1 15).toInt = (I v1 15).toInt := by rw [f_I28.2.2.1 v1 6 15 kv1 (by decide) (by decide)]
          unfold f_X0_findReach_b83
          intro x32 ex32
          have rx32 := i_rng x32
          first | (have tx32 : x32.toInt = v3.toInt + (1) := by (rw [ex32]; exact (i_add rfl (show (1 : Int32).toInt = 1 from rfl) (by omega) (by omega)))) | skip
          exact ih x32 I28 L29 w_I28 q_I28   (by omega) (by omega) (by omega)
set_option maxHeartbeats 4000000 in
set_option maxRecDepth 100000 in
theorem l_X0_findReach_L28 {Z : jZ} {I0 : jI} {Q : jI → jL → Prop} (w0 : WD Z I0) (v0 : Nat) (v1 : Nat) (kv0 : jk Z v0 0) (kv1 : jk Z v1 6) (hQ : ∀  (I' : jI) (L' : jL), WD Z I' → FR Ws_X0_findReach Z I0 Z I' → Q I' L') : ∀ (n : Nat) (v2 : Int32) (I : jI) (L : jL), WD Z I → FR Ws_X0_findReach Z I0 Z I →   (-1 ≤ v2.toInt ∧ v2.toInt ≤ 23) → v2.toInt + 1 < (n : Int) → f_X0_findReach_L28  Z Q n v0 v1 v2 I L := by
  intro n
  induction n with
  | zero =>
    intro v2 I L w_I q_I   li  me
    exfalso
    omega
  | succ n ih =>
    intro v2 I L w_I q_I   li  me
    unfold f_X0_findReach_L28
    have rv2 := i_rng v2
    refine ⟨fun c33 => ?_, fun c33 => ?_⟩
    · skip
      first | (have t34 : v2.toInt < (0) := (i_lt rfl (show (0 : Int32).toInt = 0 from rfl)).mp c33) | (have t34 : v2.toInt < (0 : Int32).toInt := (i_lt rfl rfl).mp c33) | skip
      exact hQ  I L w_I q_I 
    · skip
      first | (have t35 : ¬ (v2.toInt < (0)) := (not_congr (i_lt rfl (show (0 : Int32).toInt = 0 from rfl))).mp c33) | (have t35 : ¬ (v2.toInt < (0 : Int32).toInt) := (not_congr (i_lt rfl rfl)).mp c33) | skip
      have t36 : (1 : Int32).toInt = 1 := rfl
      exact ⟨(4 - (1 : Int32).toInt).toNat + 1, l_X0_findReach_L34 w0 v0 v1 kv0 kv1 v2  hQ ih  _ (1 : Int32) I L w_I q_I   (by omega) (by omega) (by omega)⟩
set_option maxHeartbeats 4000000 in
set_option maxRecDepth 100000 in
theorem s_X0_findReach {Z : jZ} {I : jI} {L : jL} (w_I : WD Z I) (v0 : Nat) (v1 : Nat) (kv0 : jk Z v0 0) (kv1 : jk Z v1 6) {Q : jI → jL → Prop} (hQ : ∀  (I' : jI) (L' : jL), WD Z I' → FR Ws_X0_findReach Z I Z I' → Q I' L') : f_X0_findReach v0 v1 Z I L Q := by
  unfold f_X0_findReach
  have q_I : FR Ws_X0_findReach Z I Z I := FR.rf
  intro b37 eb37
  obtain ⟨x38, ex38, kb37, lb37⟩ := sh_f w_I.1 kv0 (j := 1) (k := 15) (m := 400) rfl
  cases eb37.symm.trans ex38
  refine s_J7_fill_d0a16 w_I b37 (0 : Int64) kb37  (by omega) (fun  I39 L40 w_I39 f_I39  => ?_)
  have q_I39 : FR Ws_X0_findReach Z I Z I39 := q_I.trans w_I.1 w_I.2.1 (f_I39.mono (by decide))
  intro b41 eb41
  obtain rfl : b37 = b41 := Option.some.inj (eb37.symm.trans eb41)
  have t43 : 0 ≤ (I39 v1 15).toInt ∧ (I39 v1 15).toInt ≤ 24 := w_I39.fld 6 15 kv1 (by decide)
  have o44 : vp_in ((I39 v1 15) * (16 : Int32)) 400 := vi_of (i_mul rfl (show (16 : Int32).toInt = 16 from rfl) (by omega) (by omega)) (by omega) (by omega)
  refine ⟨o44, ?_⟩
  intro L45 eL45
  have t47 : 0 ≤ (I39 v1 15).toInt ∧ (I39 v1 15).toInt ≤ 24 := w_I39.fld 6 15 kv1 (by decide)
  intro x48 ex48
  have rx48 := i_rng x48
  first | (have tx48 : x48.toInt = ((I39 v1 15).toInt - (1)) := by (rw [ex48]; exact (i_sub rfl (show (1 : Int32).toInt = 1 from rfl) (by omega) (by omega)))) | (have tx48 : x48.toInt = ((I39 v1 15) - (1 : Int32)).toInt := by rw [ex48])
  exact ⟨(x48.toInt + 1).toNat + 1, l_X0_findReach_L28 w_I v0 v1 kv0 kv1   hQ   _ x48 I39 L45 w_I39 q_I39   (by omega)  (by omega)⟩
set_option maxHeartbeats 4000000 in
set_option maxRecDepth 100000 in
theorem s_X0_isInReach {Z : jZ} {I : jI} {L : jL} (w_I : WD Z I) (v0 : Nat) (v1 : Int32) (v2 : Int32) (kv0 : jk Z v0 0) (p0 : 0 ≤ v1.toInt ∧ v1.toInt ≤ 24 ∧ 0 ≤ v2.toInt) {Q : Int32 → jI → jL → Prop} (hQ : ∀ (r : Int32), Q r I L) : f_X0_isInReach v0 v1 v2 Z I L Q := by
  unfold f_X0_isInReach
  have rv1 := i_rng v1
  have rv2 := i_rng v2
  intro x1 ex1
  have rx1 := i_rng x1
  first | (have tx1 : x1.toInt = (v2.toInt / (64)) := by (rw [ex1]; exact (i_div rfl (show (64 : Int32).toInt = 64 from rfl) (by omega) (by omega)))) | (have tx1 : x1.toInt = (v2 / (64 : Int32)).toInt := by rw [ex1])
  refine ⟨fun c2 => ?_, fun c2 => ?_⟩
  · skip
    first | (have t3 : (16) ≤ x1.toInt := (i_le (show (16 : Int32).toInt = 16 from rfl) rfl).mp c2) | (have t3 : (16 : Int32).toInt ≤ x1.toInt := (i_le rfl rfl).mp c2) | skip
    have t4 : (0 : Int32).toInt = 0 := rfl
    exact hQ (0 : Int32) 
  · skip
    first | (have t5 : ¬ ((16) ≤ x1.toInt) := (not_congr (i_le (show (16 : Int32).toInt = 16 from rfl) rfl)).mp c2) | (have t5 : ¬ ((16 : Int32).toInt ≤ x1.toInt) := (not_congr (i_le rfl rfl)).mp c2) | skip
    intro b6 eb6
    obtain ⟨x7, ex7, kb6, lb6⟩ := sh_f w_I.1 kv0 (j := 1) (k := 15) (m := 400) rfl
    cases eb6.symm.trans ex7
    have o8 : vp_in ((v1 * (16 : Int32)) + x1) 400 := vi_of (i_add (i_mul rfl (show (16 : Int32).toInt = 16 from rfl) (by omega) (by omega)) rfl (by omega) (by omega)) (by omega) (by omega)
    refine ⟨o8, ?_⟩
    refine ⟨fun c9 => ?_, fun c9 => ?_⟩
    · skip
      first | (have t10 : (lg_cmp ((((L b6 ((v1 * (16 : Int32)) + x1).toNatClampNeg).toUInt64 >>> ((v2 - v2 / (64 : Int32) * (64 : Int32)).toInt64.toUInt64 &&& Int64.toUInt64 63)).toInt64) &&& (1 : Int64)) (0 : Int64)).toInt = (0) := (i_eq rfl (show (0 : Int32).toInt = 0 from rfl)).mp c9) | (have t10 : (lg_cmp ((((L b6 ((v1 * (16 : Int32)) + x1).toNatClampNeg).toUInt64 >>> ((v2 - v2 / (64 : Int32) * (64 : Int32)).toInt64.toUInt64 &&& Int64.toUInt64 63)).toInt64) &&& (1 : Int64)) (0 : Int64)).toInt = (0 : Int32).toInt := (i_eq rfl rfl).mp c9) | skip
      have t11 : (0 : Int32).toInt = 0 := rfl
      exact hQ (0 : Int32) 
    · skip
      first | (have t12 : ¬ ((lg_cmp ((((L b6 ((v1 * (16 : Int32)) + x1).toNatClampNeg).toUInt64 >>> ((v2 - v2 / (64 : Int32) * (64 : Int32)).toInt64.toUInt64 &&& Int64.toUInt64 63)).toInt64) &&& (1 : Int64)) (0 : Int64)).toInt = (0)) := (not_congr (i_eq rfl (show (0 : Int32).toInt = 0 from rfl))).mp c9) | (have t12 : ¬ ((lg_cmp ((((L b6 ((v1 * (16 : Int32)) + x1).toNatClampNeg).toUInt64 >>> ((v2 - v2 / (64 : Int32) * (64 : Int32)).toInt64.toUInt64 &&& Int64.toUInt64 63)).toInt64) &&& (1 : Int64)) (0 : Int64)).toInt = (0 : Int32).toInt) := (not_congr (i_eq rfl rfl)).mp c9) | skip
      have t13 : (1 : Int32).toInt = 1 := rfl
      exact hQ (1 : Int32) 
def Ws_X6_measure : List (Nat × Nat) := [(3, 2), (6, 4), (6, 5), (8, 8)]
set_option maxHeartbeats 4000000 in
set_option maxRecDepth 100000 in
theorem l_X6_measure_L22 {Z : jZ} {I0 : jI} {Q : jI → jL → Prop} (w0 : WD Z I0) (v0 : Nat) (v1 : Int32) (v2 : Int32) (kv0 : jk Z v0 6) (v3 : Int32) (hQ : ∀  (I' : jI) (L' : jL), WD Z I' → FR Ws_X6_measure Z I0 Z I' → Q I' L') {K6 : Nat → Int32 → Int32 → jI → jL → Prop} {N6 : Int} (hK6 : ∀ (v3 : Int32) (I : jI) (L : jL), WD Z I → FR Ws_X6_measure Z I0 Z I →   (1 ≤ v3.toInt) → max 0 (25 - v3.toInt) < N6 → K6 v0 v2 v3 I L) : ∀ (n : Nat) (v4 : Int32) (I : jI) (L : jL), WD Z I → FR Ws_X6_measure Z I0 Z I →   (1 ≤ v3.toInt ∧ v3.toInt ≤ 24 ∧ 1 ≤ v4.toInt ∧ v4.toInt ≤ 4) → max 0 (25 - v3.toInt) ≤ N6 → 4 - v4.toInt < (n : Int) → f_X6_measure_L22 K6 Z Q n v0 v2 v3 v4 I L := by
  intro n
  induction n with
  | zero =>
    intro v4 I L w_I q_I   li hm6 me
    exfalso
    omega
  | succ n ih =>
    intro v4 I L w_I q_I   li hm6 me
    unfold f_X6_measure_L22
    have rv4 := i_rng v4
    have rv3 := i_rng v3
    have rv1 := i_rng v1
    have rv2 := i_rng v2
    have t2 : 0 ≤ (I v0 3).toInt ∧ (I v0 3).toInt ≤ 3 := w_I.fld 6 3 kv0 (by decide)
    refine ⟨fun c3 => ?_, fun c3 => ?_⟩
    · skip
      first | (have t4 : (I v0 3).toInt < v4.toInt := (i_lt rfl rfl).mp c3) | (have t4 : (I v0 3).toInt < v4.toInt := (i_lt rfl rfl).mp c3) | skip
      unfold f_X6_measure_b114
      intro x5 ex5
      have rx5 := i_rng x5
      first | (have tx5 : x5.toInt = v3.toInt + (1) := by (rw [ex5]; exact (i_add rfl (show (1 : Int32).toInt = 1 from rfl) (by omega) (by omega)))) | skip
      exact hK6 x5 I L w_I q_I   (by omega)  (by omega)
    · skip
      first | (have t6 : ¬ ((I v0 3).toInt < v4.toInt) := (not_congr (i_lt rfl rfl)).mp c3) | (have t6 : ¬ ((I v0 3).toInt < v4.toInt) := (not_congr (i_lt rfl rfl)).mp c3) | skip
      refine ⟨fun c7 => ?_, fun c7 => ?_⟩
      · skip
        first | (have t8 : v3.toInt < v4.toInt := (i_lt rfl rfl).mp c7) | (have t8 : v3.toInt < v4.toInt := (i_lt rfl rfl).mp c7) | skip
        unfold f_X6_measure_b114
        intro x9 ex9
        have rx9 := i_rng x9
        first | (have tx9 : x9.toInt = v3.toInt + (1) := by (rw [ex9]; exact (i_add rfl (show (1 : Int32).toInt = 1 from rfl) (by omega) (by omega)))) | skip
        exact hK6 x9 I L w_I q_I   (by omega)  (by omega)
      · skip
        first | (have t10 : ¬ (v3.toInt < v4.toInt) := (not_congr (i_lt rfl rfl)).mp c7) | (have t10 : ¬ (v3.toInt < v4.toInt) := (not_congr (i_lt rfl rfl)).mp c7) | skip
        intro b11 eb11
        obtain ⟨x12, ex12, kb11, lb11⟩ := sh_f w_I.1 kv0 (j := 6) (k := 16) (m := 25) rfl
        cases eb11.symm.trans ex12
        have o13 : vp_in v3 25 := vi_of rfl (by omega) (by omega)
        refine ⟨o13, ?_⟩
        refine ⟨fun c14 => ?_, fun c14 => ?_⟩
        · skip
          first | (have t15 : (I b11 v3.toNatClampNeg).toInt = (0) := (i_eq rfl (show (0 : Int32).toInt = 0 from rfl)).mp c14) | (have t15 : (I b11 v3.toNatClampNeg).toInt = (0 : Int32).toInt := (i_eq rfl rfl).mp c14) | skip
          unfold f_X6_measure_b114
          intro x16 ex16
          have rx16 := i_rng x16
          first | (have tx16 : x16.toInt = v3.toInt + (1) := by (rw [ex16]; exact (i_add rfl (show (1 : Int32).toInt = 1 from rfl) (by omega) (by omega)))) | skip
          exact hK6 x16 I L w_I q_I   (by omega)  (by omega)
        · skip
          first | (have t17 : ¬ ((I b11 v3.toNatClampNeg).toInt = (0)) := (not_congr (i_eq rfl (show (0 : Int32).toInt = 0 from rfl))).mp c14) | (have t17 : ¬ ((I b11 v3.toNatClampNeg).toInt = (0 : Int32).toInt) := (not_congr (i_eq rfl rfl)).mp c14) | skip
          refine s_X6_moveTo w_I v3 v4   (by omega) (fun r18 p19 => ?_)
          have rr18 := i_rng r18
          intro b20 eb20
          obtain ⟨x21, ex21, kb20, lb20⟩ := sh_f w_I.1 kv0 (j := 4) (k := 14) (m := 75) rfl
          cases eb20.symm.trans ex21
          intro b22 eb22
          obtain ⟨x23, ex23, kb22⟩ := sh_o w_I.1 kv0 (j := 0) (k := 8) rfl
          cases eb22.symm.trans ex23
          try (have t24 : ((v3 - v4) - (1 : Int32)).toInt = ((v3.toInt - v4.toInt) - (1)) := (i_sub (i_sub rfl rfl (by omega) (by omega)) (show (1 : Int32).toInt = 1 from rfl) (by omega) (by omega)))
          try (have t25 : (v3 - (1 : Int32)).toInt = (v3.toInt - (1)) := (i_sub rfl (show (1 : Int32).toInt = 1 from rfl) (by omega) (by omega)))
          refine s_X8_costOfMove w_I b22 ((v3 - v4) - (1 : Int32)) (v3 - (1 : Int32)) (I v0 14) kb22  (by omega) (fun r26 I28 L29 w_I28 f_I28 p27 => ?_)
          have q_I28 : FR Ws_X6_measure Z I0 Z I28 := q_I.trans w0.1 w0.2.1 (f_I28.mono (by decide))
          have u30 : (I28 v0 3).toInt = (I v0 3).toInt := by rw [f_I28.2.2.1 v0 6 3 kv0 (by decide) (by decide)]
          have u31 : (I28 v0 14).toInt = (I v0 14).toInt := by rw [f_I28.2.2.1 v0 6 14 kv0 (by decide) (by decide)]
          have rr26 := i_rng r26
          have o32 : vp_in r18 75 := vi_of rfl (by omega) (by omega)
          refine ⟨o32, ?_⟩
          intro I33 eI33
          have w_I33 : WD Z I33 := by rw [eI33]; exact WD_putA w_I28 6 4 kv0 eb20 kb20 rfl rfl (by decide) (by constructor <;> omega)
          have f_I33 : FR [(6, 4)] Z I28 Z I33 := by rw [eI33]; exact FR_upA w_I28.2.1 kv0 eb20 kb20 rfl rfl List.mem_cons_self
          have q_I33 : FR Ws_X6_measure Z I0 Z I33 := q_I28.trans w0.1 w0.2.1 (f_I33.mono (by decide))
          have u34 : (I33 v0 3).toInt = (I28 v0 3).toInt := by rw [f_I33.2.2.1 v0 6 3 kv0 (by decide) (by decide)]
          have u35 : (I33 v0 14).toInt = (I28 v0 14).toInt := by rw [f_I33.2.2.1 v0 6 14 kv0 (by decide) (by decide)]
          intro b36 eb36
          obtain ⟨x37, ex37, kb36, lb36⟩ := sh_f w_I33.1 kv0 (j := 5) (k := 14) (m := 75) rfl
          cases eb36.symm.trans ex37
          intro b38 eb38
          obtain rfl : b22 = b38 := Option.some.inj (eb22.symm.trans eb38)
          try (have t39 : ((v3 - v4) - (1 : Int32)).toInt = ((v3.toInt - v4.toInt) - (1)) := (i_sub (i_sub rfl rfl (by omega) (by omega)) (show (1 : Int32).toInt = 1 from rfl) (by omega) (by omega)))
          try (have t40 : (v3 - (1 : Int32)).toInt = (v3.toInt - (1)) := (i_sub rfl (show (1 : Int32).toInt = 1 from rfl) (by omega) (by omega)))
          refine s_X8_effortOfMove w_I33 b22 ((v3 - v4) - (1 : Int32)) (v3 - (1 : Int32)) (I33 v0 14) kb22  (by omega) (fun r41  => ?_)
          have rr41 := i_rng r41
          have o42 : vp_in r18 75 := vi_of rfl (by omega) (by omega)
          refine ⟨o42, ?_⟩
          intro I43 eI43
          have w_I43 : WD Z I43 := by rw [eI43]; exact WD_putA w_I33 6 5 kv0 eb36 kb36 rfl rfl (by decide) trivial
          have f_I43 : FR [(6, 5)] Z I33 Z I43 := by rw [eI43]; exact FR_upA w_I33.2.1 kv0 eb36 kb36 rfl rfl List.mem_cons_self
          have q_I43 : FR Ws_X6_measure Z I0 Z I43 := q_I33.trans w0.1 w0.2.1 (f_I43.mono (by decide))
          have u44 : (I43 v0 3).toInt = (I33 v0 3).toInt := by rw [f_I43.2.2.1 v0 6 3 kv0 (by decide) (by decide)]
          have u45 : (I43 v0 14).toInt = (I33 v0 14).toInt := by rw [f_I43.2.2.1 v0 6 14 kv0 (by decide) (by decide)]
          intro x46 ex46
          have rx46 := i_rng x46
          first | (have tx46 : x46.toInt = v4.toInt + (1) := by (rw [ex46]; exact (i_add rfl (show (1 : Int32).toInt = 1 from rfl) (by omega) (by omega)))) | skip
          exact ih x46 I43 L29 w_I43 q_I43   (by omega) (by omega) (by omega)
set_option maxHeartbeats 4000000 in
set_option maxRecDepth 100000 in
theorem l_X6_measure_L6 {Z : jZ} {I0 : jI} {Q : jI → jL → Prop} (w0 : WD Z I0) (v0 : Nat) (v1 : Int32) (v2 : Int32) (kv0 : jk Z v0 6) (hQ : ∀  (I' : jI) (L' : jL), WD Z I' → FR Ws_X6_measure Z I0 Z I' → Q I' L') : ∀ (n : Nat) (v3 : Int32) (I : jI) (L : jL), WD Z I → FR Ws_X6_measure Z I0 Z I →   (1 ≤ v3.toInt) → max 0 (25 - v3.toInt) < (n : Int) → f_X6_measure_L6  Z Q n v0 v2 v3 I L := by
  intro n
  induction n with
  | zero =>
    intro v3 I L w_I q_I   li  me
    exfalso
    omega
  | succ n ih =>
    intro v3 I L w_I q_I   li  me
    unfold f_X6_measure_L6
    have rv3 := i_rng v3
    have rv1 := i_rng v1
    have rv2 := i_rng v2
    refine ⟨fun c47 => ?_, fun c47 => ?_⟩
    · skip
      first | (have t48 : v2.toInt < v3.toInt := (i_lt rfl rfl).mp c47) | (have t48 : v2.toInt < v3.toInt := (i_lt rfl rfl).mp c47) | skip
      exact hQ  I L w_I q_I 
    · skip
      first | (have t49 : ¬ (v2.toInt < v3.toInt) := (not_congr (i_lt rfl rfl)).mp c47) | (have t49 : ¬ (v2.toInt < v3.toInt) := (not_congr (i_lt rfl rfl)).mp c47) | skip
      have t51 : 0 ≤ (I v0 15).toInt ∧ (I v0 15).toInt ≤ 24 := w_I.fld 6 15 kv0 (by decide)
      refine ⟨fun c52 => ?_, fun c52 => ?_⟩
      · skip
        first | (have t53 : (I v0 15).toInt < v3.toInt := (i_lt rfl rfl).mp c52) | (have t53 : (I v0 15).toInt < v3.toInt := (i_lt rfl rfl).mp c52) | skip
        exact hQ  I L w_I q_I 
      · skip
        first | (have t54 : ¬ ((I v0 15).toInt < v3.toInt) := (not_congr (i_lt rfl rfl)).mp c52) | (have t54 : ¬ ((I v0 15).toInt < v3.toInt) := (not_congr (i_lt rfl rfl)).mp c52) | skip
        have t55 : (1 : Int32).toInt = 1 := rfl
        exact ⟨(4 - (1 : Int32).toInt).toNat + 1, l_X6_measure_L22 w0 v0 v1 v2 kv0 v3  hQ ih  _ (1 : Int32) I L w_I q_I   (by omega) (by omega) (by omega)⟩
set_option maxHeartbeats 4000000 in
set_option maxRecDepth 100000 in
theorem s_X6_measure {Z : jZ} {I : jI} {L : jL} (w_I : WD Z I) (v0 : Nat) (v1 : Int32) (v2 : Int32) (kv0 : jk Z v0 6) {Q : jI → jL → Prop} (hQ : ∀  (I' : jI) (L' : jL), WD Z I' → FR Ws_X6_measure Z I Z I' → Q I' L') : f_X6_measure v0 v1 v2 Z I L Q := by
  unfold f_X6_measure
  have q_I : FR Ws_X6_measure Z I Z I := FR.rf
  have rv1 := i_rng v1
  have rv2 := i_rng v2
  intro x56 ex56
  have rx56 := i_rng x56
  first | (have tx56 : x56.toInt = (max v1.toInt (1)) := by (rw [ex56]; exact (i_max rfl (show (1 : Int32).toInt = 1 from rfl)))) | (have tx56 : x56.toInt = (if v1 < (1 : Int32) then (1 : Int32) else v1).toInt := by rw [ex56])
  exact ⟨(max 0 (25 - x56.toInt)).toNat + 1, l_X6_measure_L6 w_I v0 v1 v2 kv0   hQ   _ x56 I L w_I q_I   (by omega)  (by omega)⟩
set_option maxHeartbeats 4000000 in
set_option maxRecDepth 100000 in
theorem l_X6_leastEffortUp_L26 {Z : jZ} {I : jI} {L : jL} {Q : Int32 → jI → jL → Prop} (w_I : WD Z I) (v0 : Nat) (v1 : Int32) (kv0 : jk Z v0 6) (p0 : 0 ≤ v1.toInt ∧ v1.toInt ≤ 24) (hQ : ∀ (r : Int32), Q r I L) : ∀ (n : Nat) (v2 : Int32) (v3 : Int32) ,   (1 ≤ v3.toInt ∧ v3.toInt ≤ 4) → 4 - v3.toInt < (n : Int) → f_X6_leastEffortUp_L26  Z Q n v0 v1 v2 v3 I L := by
  intro n
  induction n with
  | zero =>
    intro v2 v3   li  me
    exfalso
    omega
  | succ n ih =>
    intro v2 v3   li  me
    unfold f_X6_leastEffortUp_L26
    have rv2 := i_rng v2
    have rv3 := i_rng v3
    have rv1 := i_rng v1
    have t2 : 0 ≤ (I v0 3).toInt ∧ (I v0 3).toInt ≤ 3 := w_I.fld 6 3 kv0 (by decide)
    refine ⟨fun c3 => ?_, fun c3 => ?_⟩
    · skip
      first | (have t4 : (I v0 3).toInt < v3.toInt := (i_lt rfl rfl).mp c3) | (have t4 : (I v0 3).toInt < v3.toInt := (i_lt rfl rfl).mp c3) | skip
      exact hQ v2 
    · skip
      first | (have t5 : ¬ ((I v0 3).toInt < v3.toInt) := (not_congr (i_lt rfl rfl)).mp c3) | (have t5 : ¬ ((I v0 3).toInt < v3.toInt) := (not_congr (i_lt rfl rfl)).mp c3) | skip
      have t7 : 0 ≤ (I v0 15).toInt ∧ (I v0 15).toInt ≤ 24 := w_I.fld 6 15 kv0 (by decide)
      refine ⟨fun c8 => ?_, fun c8 => ?_⟩
      · skip
        first | (have t9 : (I v0 15).toInt < (v1.toInt + v3.toInt) := (i_lt rfl (i_add rfl rfl (by omega) (by omega))).mp c8) | (have t9 : (I v0 15).toInt < (v1 + v3).toInt := (i_lt rfl rfl).mp c8) | skip
        exact hQ v2 
      · skip
        first | (have t10 : ¬ ((I v0 15).toInt < (v1.toInt + v3.toInt)) := (not_congr (i_lt rfl (i_add rfl rfl (by omega) (by omega)))).mp c8) | (have t10 : ¬ ((I v0 15).toInt < (v1 + v3).toInt) := (not_congr (i_lt rfl rfl)).mp c8) | skip
        intro b11 eb11
        obtain ⟨x12, ex12, kb11, lb11⟩ := sh_f w_I.1 kv0 (j := 6) (k := 16) (m := 25) rfl
        cases eb11.symm.trans ex12
        have o13 : vp_in v1 25 := vi_of rfl (by omega) (by omega)
        refine ⟨o13, ?_⟩
        refine ⟨fun c14 => ?_, fun c14 => ?_⟩
        · skip
          first | (have t15 : (I b11 v1.toNatClampNeg).toInt = (0) := (i_eq rfl (show (0 : Int32).toInt = 0 from rfl)).mp c14) | (have t15 : (I b11 v1.toNatClampNeg).toInt = (0 : Int32).toInt := (i_eq rfl rfl).mp c14) | skip
          unfold f_X6_leastEffortUp_b90
          intro x16 ex16
          have rx16 := i_rng x16
          first | (have tx16 : x16.toInt = v3.toInt + (1) := by (rw [ex16]; exact (i_add rfl (show (1 : Int32).toInt = 1 from rfl) (by omega) (by omega)))) | skip
          exact ih v2 x16   (by omega)  (by omega)
        · skip
          first | (have t17 : ¬ ((I b11 v1.toNatClampNeg).toInt = (0)) := (not_congr (i_eq rfl (show (0 : Int32).toInt = 0 from rfl))).mp c14) | (have t17 : ¬ ((I b11 v1.toNatClampNeg).toInt = (0 : Int32).toInt) := (not_congr (i_eq rfl rfl)).mp c14) | skip
          intro b18 eb18
          obtain rfl : b11 = b18 := Option.some.inj (eb11.symm.trans eb18)
          have o19 : vp_in (v1 + v3) 25 := vi_of (i_add rfl rfl (by omega) (by omega)) (by omega) (by omega)
          refine ⟨o19, ?_⟩
          refine ⟨fun c20 => ?_, fun c20 => ?_⟩
          · skip
            first | (have t21 : (I b11 (v1 + v3).toNatClampNeg).toInt = (0) := (i_eq rfl (show (0 : Int32).toInt = 0 from rfl)).mp c20) | (have t21 : (I b11 (v1 + v3).toNatClampNeg).toInt = (0 : Int32).toInt := (i_eq rfl rfl).mp c20) | skip
            unfold f_X6_leastEffortUp_b90
            intro x22 ex22
            have rx22 := i_rng x22
            first | (have tx22 : x22.toInt = v3.toInt + (1) := by (rw [ex22]; exact (i_add rfl (show (1 : Int32).toInt = 1 from rfl) (by omega) (by omega)))) | skip
            exact ih v2 x22   (by omega)  (by omega)
          · skip
            first | (have t23 : ¬ ((I b11 (v1 + v3).toNatClampNeg).toInt = (0)) := (not_congr (i_eq rfl (show (0 : Int32).toInt = 0 from rfl))).mp c20) | (have t23 : ¬ ((I b11 (v1 + v3).toNatClampNeg).toInt = (0 : Int32).toInt) := (not_congr (i_eq rfl rfl)).mp c20) | skip
            intro b24 eb24
            obtain ⟨x25, ex25, kb24, lb24⟩ := sh_f w_I.1 kv0 (j := 5) (k := 14) (m := 75) rfl
            cases eb24.symm.trans ex25
            try (have t26 : (v1 + v3).toInt = (v1.toInt + v3.toInt) := (i_add rfl rfl (by omega) (by omega)))
            refine s_X6_moveTo w_I (v1 + v3) v3   (by omega) (fun r27 p28 => ?_)
            have rr27 := i_rng r27
            have o29 : vp_in r27 75 := vi_of rfl (by omega) (by omega)
            refine ⟨o29, ?_⟩
            intro b30 eb30
            obtain ⟨x31, ex31, kb30, lb30⟩ := sh_f w_I.1 kv0 (j := 7) (k := 14) (m := 25) rfl
            cases eb30.symm.trans ex31
            have o32 : vp_in (v1 + v3) 25 := vi_of (i_add rfl rfl (by omega) (by omega)) (by omega) (by omega)
            refine ⟨o32, ?_⟩
            intro x33 ex33
            have rx33 := i_rng x33
            first | (have tx33 : x33.toInt = (min v2.toInt ((I b24 r27.toNatClampNeg).toInt + (I b30 (v1 + v3).toNatClampNeg).toInt)) := by (rw [ex33]; exact (i_min rfl (i_add rfl rfl (by omega) (by omega))))) | (have tx33 : x33.toInt = (if ((I b24 r27.toNatClampNeg) + (I b30 (v1 + v3).toNatClampNeg)) < v2 then ((I b24 r27.toNatClampNeg) + (I b30 (v1 + v3).toNatClampNeg)) else v2).toInt := by rw [ex33])
            unfold f_X6_leastEffortUp_b90
            intro x34 ex34
            have rx34 := i_rng x34
            first | (have tx34 : x34.toInt = v3.toInt + (1) := by (rw [ex34]; exact (i_add rfl (show (1 : Int32).toInt = 1 from rfl) (by omega) (by omega)))) | skip
            exact ih x33 x34   (by omega)  (by omega)
set_option maxHeartbeats 4000000 in
set_option maxRecDepth 100000 in
theorem s_X6_leastEffortUp {Z : jZ} {I : jI} {L : jL} (w_I : WD Z I) (v0 : Nat) (v1 : Int32) (kv0 : jk Z v0 6) (p0 : 0 ≤ v1.toInt ∧ v1.toInt ≤ 24) {Q : Int32 → jI → jL → Prop} (hQ : ∀ (r : Int32), Q r I L) : f_X6_leastEffortUp v0 v1 Z I L Q := by
  unfold f_X6_leastEffortUp
  have rv1 := i_rng v1
  have t36 : 0 ≤ (I v0 15).toInt ∧ (I v0 15).toInt ≤ 24 := w_I.fld 6 15 kv0 (by decide)
  refine ⟨fun c37 => ?_, fun c37 => ?_⟩
  · skip
    first | (have t38 : ¬ (v1.toInt = (I v0 15).toInt) := (not_congr (i_eq rfl rfl)).mp c37) | (have t38 : ¬ (v1.toInt = (I v0 15).toInt) := (not_congr (i_eq rfl rfl)).mp c37) | skip
    unfold f_X6_leastEffortUp_b21
    unfold f_X6_leastEffortUp_b23
    have t39 : (1048576 : Int32).toInt = 1048576 := rfl
    have t40 : (1 : Int32).toInt = 1 := rfl
    exact ⟨(4 - (1 : Int32).toInt).toNat + 1, l_X6_leastEffortUp_L26 w_I v0 v1 kv0 p0   hQ   _ (1048576 : Int32) (1 : Int32)   (by omega)  (by omega)⟩
  · skip
    first | (have t41 : v1.toInt = (I v0 15).toInt := (i_eq rfl rfl).mp c37) | (have t41 : v1.toInt = (I v0 15).toInt := (i_eq rfl rfl).mp c37) | skip
    intro b42 eb42
    obtain ⟨x43, ex43, kb42, lb42⟩ := sh_f w_I.1 kv0 (j := 6) (k := 16) (m := 25) rfl
    cases eb42.symm.trans ex43
    have o44 : vp_in v1 25 := vi_of rfl (by omega) (by omega)
    refine ⟨o44, ?_⟩
    refine ⟨fun c45 => ?_, fun c45 => ?_⟩
    · skip
      first | (have t46 : (I b42 v1.toNatClampNeg).toInt = (0) := (i_eq rfl (show (0 : Int32).toInt = 0 from rfl)).mp c45) | (have t46 : (I b42 v1.toNatClampNeg).toInt = (0 : Int32).toInt := (i_eq rfl rfl).mp c45) | skip
      unfold f_X6_leastEffortUp_b21
      unfold f_X6_leastEffortUp_b23
      have t47 : (1048576 : Int32).toInt = 1048576 := rfl
      have t48 : (1 : Int32).toInt = 1 := rfl
      exact ⟨(4 - (1 : Int32).toInt).toNat + 1, l_X6_leastEffortUp_L26 w_I v0 v1 kv0 p0   hQ   _ (1048576 : Int32) (1 : Int32)   (by omega)  (by omega)⟩
    · skip
      first | (have t49 : ¬ ((I b42 v1.toNatClampNeg).toInt = (0)) := (not_congr (i_eq rfl (show (0 : Int32).toInt = 0 from rfl))).mp c45) | (have t49 : ¬ ((I b42 v1.toNatClampNeg).toInt = (0 : Int32).toInt) := (not_congr (i_eq rfl rfl)).mp c45) | skip
      unfold f_X6_leastEffortUp_b23
      have t50 : (0 : Int32).toInt = 0 := rfl
      have t51 : (1 : Int32).toInt = 1 := rfl
      exact ⟨(4 - (1 : Int32).toInt).toNat + 1, l_X6_leastEffortUp_L26 w_I v0 v1 kv0 p0   hQ   _ (0 : Int32) (1 : Int32)   (by omega)  (by omega)⟩
def Ws_X6_lay : List (Nat × Nat) := [(3, 2), (6, 4), (6, 5), (6, 6), (6, 7), (6, 14), (6, 15), (8, 8)]
set_option maxHeartbeats 4000000 in
set_option maxRecDepth 100000 in
theorem l_X6_lay_L104 {Z : jZ} {I0 : jI} {Q : jI → jL → Prop} (w0 : WD Z I0) (v0 : Nat) (v1 : Int32) (v2 : Int32) (v3 : Int32) (kv0 : jk Z v0 6) (hQ : ∀  (I' : jI) (L' : jL), WD Z I' → FR Ws_X6_lay Z I0 Z I' → Q I' L') : ∀ (n : Nat) (v4 : Int32) (I : jI) (L : jL), WD Z I → FR Ws_X6_lay Z I0 Z I →   (-1 ≤ v4.toInt ∧ v4.toInt ≤ 24) → v4.toInt + 1 < (n : Int) → f_X6_lay_L104  Z Q n v0 v4 I L := by
  intro n
  induction n with
  | zero =>
    intro v4 I L w_I q_I   li  me
    exfalso
    omega
  | succ n ih =>
    intro v4 I L w_I q_I   li  me
    unfold f_X6_lay_L104
    have rv4 := i_rng v4
    have rv1 := i_rng v1
    have rv2 := i_rng v2
    have rv3 := i_rng v3
    refine ⟨fun c1 => ?_, fun c1 => ?_⟩
    · skip
      first | (have t2 : v4.toInt < (0) := (i_lt rfl (show (0 : Int32).toInt = 0 from rfl)).mp c1) | (have t2 : v4.toInt < (0 : Int32).toInt := (i_lt rfl rfl).mp c1) | skip
      exact hQ  I L w_I q_I 
    · skip
      first | (have t3 : ¬ (v4.toInt < (0)) := (not_congr (i_lt rfl (show (0 : Int32).toInt = 0 from rfl))).mp c1) | (have t3 : ¬ (v4.toInt < (0 : Int32).toInt) := (not_congr (i_lt rfl rfl)).mp c1) | skip
      intro b4 eb4
      obtain ⟨x5, ex5, kb4, lb4⟩ := sh_f w_I.1 kv0 (j := 7) (k := 14) (m := 25) rfl
      cases eb4.symm.trans ex5
      refine s_X6_leastEffortUp w_I v0 v4 kv0  (by omega) (fun r6  => ?_)
      have rr6 := i_rng r6
      have o7 : vp_in v4 25 := vi_of rfl (by omega) (by omega)
      refine ⟨o7, ?_⟩
      intro I8 eI8
      have w_I8 : WD Z I8 := by rw [eI8]; exact WD_putA w_I 6 7 kv0 eb4 kb4 rfl rfl (by decide) trivial
      have f_I8 : FR [(6, 7)] Z I Z I8 := by rw [eI8]; exact FR_upA w_I.2.1 kv0 eb4 kb4 rfl rfl List.mem_cons_self
      have q_I8 : FR Ws_X6_lay Z I0 Z I8 := q_I.trans w0.1 w0.2.1 (f_I8.mono (by decide))
      intro x9 ex9
      have rx9 := i_rng x9
      first | (have tx9 : x9.toInt = v4.toInt + (-1) := by (rw [ex9]; exact (i_add rfl (show (-1 : Int32).toInt = -1 from rfl) (by omega) (by omega)))) | skip
      exact ih x9 I8 L w_I8 q_I8   (by omega)  (by omega)
set_option maxHeartbeats 4000000 in
set_option maxRecDepth 100000 in
theorem l_X6_lay_L31 {Z : jZ} {I0 : jI} {Q : jI → jL → Prop} (w0 : WD Z I0) (v0 : Nat) (v1 : Int32) (v2 : Int32) (v3 : Int32) (kv0 : jk Z v0 6) (hQ : ∀  (I' : jI) (L' : jL), WD Z I' → FR Ws_X6_lay Z I0 Z I' → Q I' L') : ∀ (n : Nat) (v4 : Int32) (I : jI) (L : jL), WD Z I → FR Ws_X6_lay Z I0 Z I →   (1 ≤ v4.toInt ∧ v4.toInt ≤ 25) → 25 - v4.toInt < (n : Int) → f_X6_lay_L31  Z Q n v0 v2 v3 v4 I L := by
  intro n
  induction n with
  | zero =>
    intro v4 I L w_I q_I   li  me
    exfalso
    omega
  | succ n ih =>
    intro v4 I L w_I q_I   li  me
    unfold f_X6_lay_L31
    have rv4 := i_rng v4
    have rv1 := i_rng v1
    have rv2 := i_rng v2
    have rv3 := i_rng v3
    have t11 : 0 ≤ (I v0 15).toInt ∧ (I v0 15).toInt ≤ 24 := w_I.fld 6 15 kv0 (by decide)
    refine ⟨fun c12 => ?_, fun c12 => ?_⟩
    · skip
      first | (have t13 : (I v0 15).toInt < v4.toInt := (i_lt rfl rfl).mp c12) | (have t13 : (I v0 15).toInt < v4.toInt := (i_lt rfl rfl).mp c12) | skip
      have t15 : 0 ≤ (I v0 15).toInt ∧ (I v0 15).toInt ≤ 24 := w_I.fld 6 15 kv0 (by decide)
      have t16 : (1 : Int32).toInt = 1 := rfl
      refine s_X6_measure w_I v0 (1 : Int32) (I v0 15) kv0   (fun  I17 L18 w_I17 f_I17  => ?_)
      have q_I17 : FR Ws_X6_lay Z I0 Z I17 := q_I.trans w0.1 w0.2.1 (f_I17.mono (by decide))
      have u19 : (I17 v0 15).toInt = (I v0 15).toInt := by rw [f_I17.2.2.1 v0 6 15 kv0 (by decide) (by decide)]
      have t21 : 0 ≤ (I17 v0 15).toInt ∧ (I17 v0 15).toInt ≤ 24 := w_I17.fld 6 15 kv0 (by decide)
      intro x22 ex22
      have rx22 := i_rng x22
      first | (have tx22 : x22.toInt = (I17 v0 15).toInt := by (rw [ex22]; exact rfl)) | (have tx22 : x22.toInt = (I17 v0 15).toInt := by rw [ex22])
      exact ⟨(x22.toInt + 1).toNat + 1, l_X6_lay_L104 w0 v0 v1 v2 v3 kv0   hQ   _ x22 I17 L18 w_I17 q_I17   (by omega)  (by omega)⟩
    · skip
      first | (have t23 : ¬ ((I v0 15).toInt < v4.toInt) := (not_congr (i_lt rfl rfl)).mp c12) | (have t23 : ¬ ((I v0 15).toInt < v4.toInt) := (not_congr (i_lt rfl rfl)).mp c12) | skip
      intro x24 ex24
      have rx24 := i_rng x24
      first | (have tx24 : x24.toInt = (v4.toInt - (1)) := by (rw [ex24]; exact (i_sub rfl (show (1 : Int32).toInt = 1 from rfl) (by omega) (by omega)))) | (have tx24 : x24.toInt = (v4 - (1 : Int32)).toInt := by rw [ex24])
      intro b25 eb25
      obtain ⟨x26, ex26, kb25, lb25⟩ := sh_f w_I.1 kv0 (j := 6) (k := 16) (m := 25) rfl
      cases eb25.symm.trans ex26
      refine ⟨fun c27 => ?_, fun c27 => ?_⟩
      · skip
        first | (have t28 : x24.toInt = v3.toInt := (i_eq rfl rfl).mp c27) | (have t28 : x24.toInt = v3.toInt := (i_eq rfl rfl).mp c27) | skip
        unfold f_X6_lay_b81
        unfold f_X6_lay_b82
        have o29 : vp_in v4 (jlen Z b25) := vi_of rfl (by omega) (by omega)
        refine ⟨o29, ?_⟩
        intro I30 eI30
        have t31 : (0 : Int32).toInt = 0 := rfl
        have w_I30 : WD Z I30 := by rw [eI30]; exact WD_putA w_I 6 6 kv0 eb25 kb25 rfl rfl (by decide) trivial
        have f_I30 : FR [(6, 6)] Z I Z I30 := by rw [eI30]; exact FR_upA w_I.2.1 kv0 eb25 kb25 rfl rfl List.mem_cons_self
        have q_I30 : FR Ws_X6_lay Z I0 Z I30 := q_I.trans w0.1 w0.2.1 (f_I30.mono (by decide))
        have u32 : (I30 v0 15).toInt = (I v0 15).toInt := by rw [f_I30.2.2.1 v0 6 15 kv0 (by decide) (by decide)]
        intro x33 ex33
        have rx33 := i_rng x33
        first | (have tx33 : x33.toInt = v4.toInt + (1) := by (rw [ex33]; exact (i_add rfl (show (1 : Int32).toInt = 1 from rfl) (by omega) (by omega)))) | skip
        exact ih x33 I30 L w_I30 q_I30   (by omega)  (by omega)
      · skip
        first | (have t34 : ¬ (x24.toInt = v3.toInt) := (not_congr (i_eq rfl rfl)).mp c27) | (have t34 : ¬ (x24.toInt = v3.toInt) := (not_congr (i_eq rfl rfl)).mp c27) | skip
        intro b35 eb35
        obtain ⟨x36, ex36, kb35⟩ := sh_o w_I.1 kv0 (j := 0) (k := 8) rfl
        cases eb35.symm.trans ex36
        intro b37 eb37
        obtain ⟨x38, ex38, kb37⟩ := sh_o w_I.1 kb35 (j := 4) (k := 4) rfl
        cases eb37.symm.trans ex38
        refine s_X4_mainOf w_I b37 x24 kb37   (fun r39 p40 => ?_)
        have rr39 := i_rng r39
        have t41 : 0 ≤ ((v2 >>> (r39 &&& 31)) &&& (1 : Int32)).toInt ∧ ((v2 >>> (r39 &&& 31)) &&& (1 : Int32)).toInt < 2 ^ 1 := i_and (n := 1) (by decide)
        refine ⟨fun c42 => ?_, fun c42 => ?_⟩
        · skip
          first | (have t43 : ¬ (((v2 >>> (r39 &&& 31)) &&& (1 : Int32)).toInt = (0)) := (not_congr (i_eq rfl (show (0 : Int32).toInt = 0 from rfl))).mp c42) | (have t43 : ¬ (((v2 >>> (r39 &&& 31)) &&& (1 : Int32)).toInt = (0 : Int32).toInt) := (not_congr (i_eq rfl rfl)).mp c42) | skip
          unfold f_X6_lay_b81
          unfold f_X6_lay_b82
          have o44 : vp_in v4 (jlen Z b25) := vi_of rfl (by omega) (by omega)
          refine ⟨o44, ?_⟩
          intro I45 eI45
          have t46 : (0 : Int32).toInt = 0 := rfl
          have w_I45 : WD Z I45 := by rw [eI45]; exact WD_putA w_I 6 6 kv0 eb25 kb25 rfl rfl (by decide) trivial
          have f_I45 : FR [(6, 6)] Z I Z I45 := by rw [eI45]; exact FR_upA w_I.2.1 kv0 eb25 kb25 rfl rfl List.mem_cons_self
          have q_I45 : FR Ws_X6_lay Z I0 Z I45 := q_I.trans w0.1 w0.2.1 (f_I45.mono (by decide))
          have u47 : (I45 v0 15).toInt = (I v0 15).toInt := by rw [f_I45.2.2.1 v0 6 15 kv0 (by decide) (by decide)]
          intro x48 ex48
          have rx48 := i_rng x48
          first | (have tx48 : x48.toInt = v4.toInt + (1) := by (rw [ex48]; exact (i_add rfl (show (1 : Int32).toInt = 1 from rfl) (by omega) (by omega)))) | skip
          exact ih x48 I45 L w_I45 q_I45   (by omega)  (by omega)
        · skip
          first | (have t49 : ((v2 >>> (r39 &&& 31)) &&& (1 : Int32)).toInt = (0) := (i_eq rfl (show (0 : Int32).toInt = 0 from rfl)).mp c42) | (have t49 : ((v2 >>> (r39 &&& 31)) &&& (1 : Int32)).toInt = (0 : Int32).toInt := (i_eq rfl rfl).mp c42) | skip
          unfold f_X6_lay_b82
          have o50 : vp_in v4 (jlen Z b25) := vi_of rfl (by omega) (by omega)
          refine ⟨o50, ?_⟩
          intro I51 eI51
          have t52 : (1 : Int32).toInt = 1 := rfl
          have w_I51 : WD Z I51 := by rw [eI51]; exact WD_putA w_I 6 6 kv0 eb25 kb25 rfl rfl (by decide) trivial
          have f_I51 : FR [(6, 6)] Z I Z I51 := by rw [eI51]; exact FR_upA w_I.2.1 kv0 eb25 kb25 rfl rfl List.mem_cons_self
          have q_I51 : FR Ws_X6_lay Z I0 Z I51 := q_I.trans w0.1 w0.2.1 (f_I51.mono (by decide))
          have u53 : (I51 v0 15).toInt = (I v0 15).toInt := by rw [f_I51.2.2.1 v0 6 15 kv0 (by decide) (by decide)]
          intro x54 ex54
          have rx54 := i_rng x54
          first | (have tx54 : x54.toInt = v4.toInt + (1) := by (rw [ex54]; exact (i_add rfl (show (1 : Int32).toInt = 1 from rfl) (by omega) (by omega)))) | skip
          exact ih x54 I51 L w_I51 q_I51   (by omega)  (by omega)
set_option maxHeartbeats 4000000 in
set_option maxRecDepth 100000 in
theorem s_X6_lay {Z : jZ} {I : jI} {L : jL} (w_I : WD Z I) (v0 : Nat) (v1 : Int32) (v2 : Int32) (v3 : Int32) (kv0 : jk Z v0 6) {Q : jI → jL → Prop} (hQ : ∀  (I' : jI) (L' : jL), WD Z I' → FR Ws_X6_lay Z I Z I' → Q I' L') : f_X6_lay v0 v1 v2 v3 Z I L Q := by
  unfold f_X6_lay
  have q_I : FR Ws_X6_lay Z I Z I := FR.rf
  have rv1 := i_rng v1
  have rv2 := i_rng v2
  have rv3 := i_rng v3
  intro I55 eI55
  have w_I55 : WD Z I55 := by rw [eI55]; exact WD_putF w_I 6 14 kv0 (by decide) (by decide) trivial
  have f_I55 : FR [(6, 14)] Z I Z I55 := by rw [eI55]; exact FR_putF kv0 (by decide) List.mem_cons_self
  have q_I55 : FR Ws_X6_lay Z I Z I55 := q_I.trans w_I.1 w_I.2.1 (f_I55.mono (by decide))
  first | (have u56 : (I55 v0 14).toInt = v1.toInt := by (rw [eI55, show jpI I v0 14 v1 v0 14 = v1 from jpI_at] <;> exact rfl)) | skip
  intro b57 eb57
  obtain ⟨x58, ex58, kb57⟩ := sh_o w_I55.1 kv0 (j := 0) (k := 8) rfl
  cases eb57.symm.trans ex58
  have t60 : 0 ≤ (I55 b57 9).toInt ∧ (I55 b57 9).toInt ≤ 24 := w_I55.fld 8 9 kb57 (by decide)
  intro I61 eI61
  try (have t62 : (if (24 : Int32) < (I55 b57 9) then (24 : Int32) else (I55 b57 9)).toInt = (min (I55 b57 9).toInt (24)) := (i_min rfl (show (24 : Int32).toInt = 24 from rfl)))
  have w_I61 : WD Z I61 := by rw [eI61]; exact WD_putF w_I55 6 15 kv0 (by decide) (by decide) (by constructor <;> omega)
  have f_I61 : FR [(6, 15)] Z I55 Z I61 := by rw [eI61]; exact FR_putF kv0 (by decide) List.mem_cons_self
  have q_I61 : FR Ws_X6_lay Z I Z I61 := q_I55.trans w_I.1 w_I.2.1 (f_I61.mono (by decide))
  have u63 : (I61 v0 14).toInt = (I55 v0 14).toInt := by rw [f_I61.2.2.1 v0 6 14 kv0 (by decide) (by decide)]
  have u64 : (I61 b57 9).toInt = (I55 b57 9).toInt := by rw [f_I61.2.2.1 b57 8 9 kb57 (by decide) (by decide)]
  first | (have u65 : (I61 v0 15).toInt = (min (I55 b57 9).toInt (24)) := by (rw [eI61, show jpI I55 v0 15 (if (24 : Int32) < (I55 b57 9) then (24 : Int32) else (I55 b57 9)) v0 15 = (if (24 : Int32) < (I55 b57 9) then (24 : Int32) else (I55 b57 9)) from jpI_at] <;> exact (i_min rfl (show (24 : Int32).toInt = 24 from rfl)))) | skip
  intro b66 eb66
  obtain ⟨x67, ex67, kb66, lb66⟩ := sh_f w_I61.1 kv0 (j := 6) (k := 16) (m := 25) rfl
  cases eb66.symm.trans ex67
  intro I68 eI68
  have t69 : (1 : Int32).toInt = 1 := rfl
  have w_I68 : WD Z I68 := by rw [eI68]; exact WD_putA w_I61 6 6 kv0 eb66 kb66 rfl rfl (by decide) trivial
  have f_I68 : FR [(6, 6)] Z I61 Z I68 := by rw [eI68]; exact FR_upA w_I61.2.1 kv0 eb66 kb66 rfl rfl List.mem_cons_self
  have q_I68 : FR Ws_X6_lay Z I Z I68 := q_I61.trans w_I.1 w_I.2.1 (f_I68.mono (by decide))
  have u70 : (I68 v0 14).toInt = (I61 v0 14).toInt := by rw [f_I68.2.2.1 v0 6 14 kv0 (by decide) (by decide)]
  have u71 : (I68 b57 9).toInt = (I61 b57 9).toInt := by rw [f_I68.2.2.1 b57 8 9 kb57 (by decide) (by decide)]
  have u72 : (I68 v0 15).toInt = (I61 v0 15).toInt := by rw [f_I68.2.2.1 v0 6 15 kv0 (by decide) (by decide)]
  have t73 : (1 : Int32).toInt = 1 := rfl
  exact ⟨(25 - (1 : Int32).toInt).toNat + 1, l_X6_lay_L31 w_I v0 v1 v2 v3 kv0   hQ   _ (1 : Int32) I68 L w_I68 q_I68   (by omega)  (by omega)⟩
set_option maxHeartbeats 4000000 in
set_option maxRecDepth 100000 in
theorem l_X6_leastEffortFrom_L13 {Z : jZ} {I : jI} {L : jL} {Q : Int32 → jI → jL → Prop} (w_I : WD Z I) (v0 : Nat) (v1 : Int32) (kv0 : jk Z v0 6) (p0 : 0 ≤ v1.toInt ∧ v1.toInt ≤ 24) (hQ : ∀ (r : Int32), Q r I L) : ∀ (n : Nat) (v2 : Int32) (v3 : Int32) ,   (1 ≤ v3.toInt ∧ v3.toInt ≤ 4) → 4 - v3.toInt < (n : Int) → f_X6_leastEffortFrom_L13  Z Q n v0 v1 v2 v3 I L := by
  intro n
  induction n with
  | zero =>
    intro v2 v3   li  me
    exfalso
    omega
  | succ n ih =>
    intro v2 v3   li  me
    unfold f_X6_leastEffortFrom_L13
    have rv2 := i_rng v2
    have rv3 := i_rng v3
    have rv1 := i_rng v1
    have t2 : 0 ≤ (I v0 3).toInt ∧ (I v0 3).toInt ≤ 3 := w_I.fld 6 3 kv0 (by decide)
    refine ⟨fun c3 => ?_, fun c3 => ?_⟩
    · skip
      first | (have t4 : (I v0 3).toInt < v3.toInt := (i_lt rfl rfl).mp c3) | (have t4 : (I v0 3).toInt < v3.toInt := (i_lt rfl rfl).mp c3) | skip
      exact hQ v2 
    · skip
      first | (have t5 : ¬ ((I v0 3).toInt < v3.toInt) := (not_congr (i_lt rfl rfl)).mp c3) | (have t5 : ¬ ((I v0 3).toInt < v3.toInt) := (not_congr (i_lt rfl rfl)).mp c3) | skip
      refine ⟨fun c6 => ?_, fun c6 => ?_⟩
      · skip
        first | (have t7 : v1.toInt < v3.toInt := (i_lt rfl rfl).mp c6) | (have t7 : v1.toInt < v3.toInt := (i_lt rfl rfl).mp c6) | skip
        exact hQ v2 
      · skip
        first | (have t8 : ¬ (v1.toInt < v3.toInt) := (not_congr (i_lt rfl rfl)).mp c6) | (have t8 : ¬ (v1.toInt < v3.toInt) := (not_congr (i_lt rfl rfl)).mp c6) | skip
        intro b9 eb9
        obtain ⟨x10, ex10, kb9, lb9⟩ := sh_f w_I.1 kv0 (j := 6) (k := 16) (m := 25) rfl
        cases eb9.symm.trans ex10
        have o11 : vp_in v1 25 := vi_of rfl (by omega) (by omega)
        refine ⟨o11, ?_⟩
        refine ⟨fun c12 => ?_, fun c12 => ?_⟩
        · skip
          first | (have t13 : (I b9 v1.toNatClampNeg).toInt = (0) := (i_eq rfl (show (0 : Int32).toInt = 0 from rfl)).mp c12) | (have t13 : (I b9 v1.toNatClampNeg).toInt = (0 : Int32).toInt := (i_eq rfl rfl).mp c12) | skip
          exact hQ v2 
        · skip
          first | (have t14 : ¬ ((I b9 v1.toNatClampNeg).toInt = (0)) := (not_congr (i_eq rfl (show (0 : Int32).toInt = 0 from rfl))).mp c12) | (have t14 : ¬ ((I b9 v1.toNatClampNeg).toInt = (0 : Int32).toInt) := (not_congr (i_eq rfl rfl)).mp c12) | skip
          intro b15 eb15
          obtain ⟨x16, ex16, kb15, lb15⟩ := sh_f w_I.1 kv0 (j := 5) (k := 14) (m := 75) rfl
          cases eb15.symm.trans ex16
          refine s_X6_moveTo w_I v1 v3   (by omega) (fun r17 p18 => ?_)
          have rr17 := i_rng r17
          have o19 : vp_in r17 75 := vi_of rfl (by omega) (by omega)
          refine ⟨o19, ?_⟩
          intro b20 eb20
          obtain ⟨x21, ex21, kb20, lb20⟩ := sh_f w_I.1 kv0 (j := 8) (k := 14) (m := 25) rfl
          cases eb20.symm.trans ex21
          have o22 : vp_in (v1 - v3) 25 := vi_of (i_sub rfl rfl (by omega) (by omega)) (by omega) (by omega)
          refine ⟨o22, ?_⟩
          intro x23 ex23
          have rx23 := i_rng x23
          first | (have tx23 : x23.toInt = (min v2.toInt ((I b15 r17.toNatClampNeg).toInt + (I b20 (v1 - v3).toNatClampNeg).toInt)) := by (rw [ex23]; exact (i_min rfl (i_add rfl rfl (by omega) (by omega))))) | (have tx23 : x23.toInt = (if ((I b15 r17.toNatClampNeg) + (I b20 (v1 - v3).toNatClampNeg)) < v2 then ((I b15 r17.toNatClampNeg) + (I b20 (v1 - v3).toNatClampNeg)) else v2).toInt := by rw [ex23])
          intro x24 ex24
          have rx24 := i_rng x24
          first | (have tx24 : x24.toInt = v3.toInt + (1) := by (rw [ex24]; exact (i_add rfl (show (1 : Int32).toInt = 1 from rfl) (by omega) (by omega)))) | skip
          exact ih x23 x24   (by omega)  (by omega)
set_option maxHeartbeats 4000000 in
set_option maxRecDepth 100000 in
theorem s_X6_leastEffortFrom {Z : jZ} {I : jI} {L : jL} (w_I : WD Z I) (v0 : Nat) (v1 : Int32) (kv0 : jk Z v0 6) (p0 : 0 ≤ v1.toInt ∧ v1.toInt ≤ 24) {Q : Int32 → jI → jL → Prop} (hQ : ∀ (r : Int32), Q r I L) : f_X6_leastEffortFrom v0 v1 Z I L Q := by
  unfold f_X6_leastEffortFrom
  have rv1 := i_rng v1
  refine ⟨fun c25 => ?_, fun c25 => ?_⟩
  · skip
    first | (have t26 : ¬ (v1.toInt = (0)) := (not_congr (i_eq rfl (show (0 : Int32).toInt = 0 from rfl))).mp c25) | (have t26 : ¬ (v1.toInt = (0 : Int32).toInt) := (not_congr (i_eq rfl rfl)).mp c25) | skip
    unfold f_X6_leastEffortFrom_b10
    have t27 : (1048576 : Int32).toInt = 1048576 := rfl
    have t28 : (1 : Int32).toInt = 1 := rfl
    exact ⟨(4 - (1 : Int32).toInt).toNat + 1, l_X6_leastEffortFrom_L13 w_I v0 v1 kv0 p0   hQ   _ (1048576 : Int32) (1 : Int32)   (by omega)  (by omega)⟩
  · skip
    first | (have t29 : v1.toInt = (0) := (i_eq rfl (show (0 : Int32).toInt = 0 from rfl)).mp c25) | (have t29 : v1.toInt = (0 : Int32).toInt := (i_eq rfl rfl).mp c25) | skip
    unfold f_X6_leastEffortFrom_b10
    have t30 : (0 : Int32).toInt = 0 := rfl
    have t31 : (1 : Int32).toInt = 1 := rfl
    exact ⟨(4 - (1 : Int32).toInt).toNat + 1, l_X6_leastEffortFrom_L13 w_I v0 v1 kv0 p0   hQ   _ (0 : Int32) (1 : Int32)   (by omega)  (by omega)⟩
set_option maxHeartbeats 4000000 in
set_option maxRecDepth 100000 in
theorem l_X7_leastJoined_L86 {Z : jZ} {I : jI} {L : jL} {Q : Int64 → jI → jL → Prop} (w_I : WD Z I) (v0 : Nat) (v1 : Int32) (v2 : Nat) (v3 : Int32) (v4 : Int32) (kv0 : jk Z v0 7) (kv2 : jk Z v2 7) (v5 : Int32) (v7 : Int64) (v9 : Int64) (v11 : Int32) (v12 : Int64) (v14 : Int32) (hQ : ∀ (r : Int64), Q r I L) {K31 : Nat → Int32 → Nat → Int32 → Int32 → Int32 → Int32 → Int64 → Int64 → Int32 → jI → jL → Prop} {N31 : Int} (hK31 : ∀ (v6 : Int32) (v7 : Int64) (v11 : Int32),   (0 ≤ v11.toInt ∧ v11.toInt ≤ 1048576 ∧ 0 ≤ v6.toInt ∧ v6.toInt ≤ 1048576) → 1048576 - v11.toInt < N31 → K31 v0 v1 v2 v3 v4 v5 v6 v7 v9 v11 I L) : ∀ (n : Nat) (v6 : Int32) ,   (0 ≤ v11.toInt ∧ v11.toInt < 1048576 ∧ 0 ≤ v6.toInt ∧ v6.toInt ≤ 1048576) → 1048576 - v11.toInt ≤ N31 → v6.toInt < (n : Int) → f_X7_leastJoined_L86 K31 Z Q n v0 v1 v2 v3 v4 v5 v6 v7 v9 v11 v12 v14 I L := by
  intro n
  induction n with
  | zero =>
    intro v6   li hm31 me
    exfalso
    omega
  | succ n ih =>
    intro v6   li hm31 me
    unfold f_X7_leastJoined_L86
    have rv6 := i_rng v6
    have rv5 := i_rng v5
    have rv11 := i_rng v11
    have rv14 := i_rng v14
    have rv1 := i_rng v1
    have rv3 := i_rng v3
    have rv4 := i_rng v4
    refine ⟨fun c1 => ?_, fun c1 => ?_⟩
    · skip
      first | (have t2 : v6.toInt ≤ (0) := (i_le rfl (show (0 : Int32).toInt = 0 from rfl)).mp c1) | (have t2 : v6.toInt ≤ (0 : Int32).toInt := (i_le rfl rfl).mp c1) | skip
      unfold f_X7_leastJoined_b114
      refine ⟨fun c3 => ?_, fun c3 => ?_⟩
      · skip
        first | (have t4 : v5.toInt ≤ v6.toInt := (i_le rfl rfl).mp c3) | (have t4 : v5.toInt ≤ v6.toInt := (i_le rfl rfl).mp c3) | skip
        unfold f_X7_leastJoined_b142
        intro x5 ex5
        have rx5 := i_rng x5
        first | (have tx5 : x5.toInt = v11.toInt + (1) := by (rw [ex5]; exact (i_add rfl (show (1 : Int32).toInt = 1 from rfl) (by omega) (by omega)))) | skip
        exact hK31 v6 v7 x5   (by omega)  (by omega)
      · skip
        first | (have t6 : ¬ (v5.toInt ≤ v6.toInt) := (not_congr (i_le rfl rfl)).mp c3) | (have t6 : ¬ (v5.toInt ≤ v6.toInt) := (not_congr (i_le rfl rfl)).mp c3) | skip
        refine s_X7_keyAt w_I v2 v3 v6 kv2   (fun r7  => ?_)
        intro x8 ex8
        unfold f_X7_leastJoined_b142
        intro x9 ex9
        have rx9 := i_rng x9
        first | (have tx9 : x9.toInt = v11.toInt + (1) := by (rw [ex9]; exact (i_add rfl (show (1 : Int32).toInt = 1 from rfl) (by omega) (by omega)))) | skip
        exact hK31 v6 x8 x9   (by omega)  (by omega)
    · skip
      first | (have t10 : ¬ (v6.toInt ≤ (0)) := (not_congr (i_le rfl (show (0 : Int32).toInt = 0 from rfl))).mp c1) | (have t10 : ¬ (v6.toInt ≤ (0 : Int32).toInt) := (not_congr (i_le rfl rfl)).mp c1) | skip
      try (have t11 : (v6 - (1 : Int32)).toInt = (v6.toInt - (1)) := (i_sub rfl (show (1 : Int32).toInt = 1 from rfl) (by omega) (by omega)))
      refine s_X7_keyAt w_I v2 v3 (v6 - (1 : Int32)) kv2   (fun r12  => ?_)
      refine s_X11_effortIn w_I r12    (fun r13 p14 => ?_)
      have rr13 := i_rng r13
      refine ⟨fun c15 => ?_, fun c15 => ?_⟩
      · skip
        first | (have t16 : v14.toInt < r13.toInt := (i_lt rfl rfl).mp c15) | (have t16 : v14.toInt < r13.toInt := (i_lt rfl rfl).mp c15) | skip
        unfold f_X7_leastJoined_b114
        refine ⟨fun c17 => ?_, fun c17 => ?_⟩
        · skip
          first | (have t18 : v5.toInt ≤ v6.toInt := (i_le rfl rfl).mp c17) | (have t18 : v5.toInt ≤ v6.toInt := (i_le rfl rfl).mp c17) | skip
          unfold f_X7_leastJoined_b142
          intro x19 ex19
          have rx19 := i_rng x19
          first | (have tx19 : x19.toInt = v11.toInt + (1) := by (rw [ex19]; exact (i_add rfl (show (1 : Int32).toInt = 1 from rfl) (by omega) (by omega)))) | skip
          exact hK31 v6 v7 x19   (by omega)  (by omega)
        · skip
          first | (have t20 : ¬ (v5.toInt ≤ v6.toInt) := (not_congr (i_le rfl rfl)).mp c17) | (have t20 : ¬ (v5.toInt ≤ v6.toInt) := (not_congr (i_le rfl rfl)).mp c17) | skip
          refine s_X7_keyAt w_I v2 v3 v6 kv2   (fun r21  => ?_)
          intro x22 ex22
          unfold f_X7_leastJoined_b142
          intro x23 ex23
          have rx23 := i_rng x23
          first | (have tx23 : x23.toInt = v11.toInt + (1) := by (rw [ex23]; exact (i_add rfl (show (1 : Int32).toInt = 1 from rfl) (by omega) (by omega)))) | skip
          exact hK31 v6 x22 x23   (by omega)  (by omega)
      · skip
        first | (have t24 : ¬ (v14.toInt < r13.toInt) := (not_congr (i_lt rfl rfl)).mp c15) | (have t24 : ¬ (v14.toInt < r13.toInt) := (not_congr (i_lt rfl rfl)).mp c15) | skip
        intro x25 ex25
        have rx25 := i_rng x25
        first | (have tx25 : x25.toInt = v6.toInt + (-1) := by (rw [ex25]; exact (i_add rfl (show (-1 : Int32).toInt = -1 from rfl) (by omega) (by omega)))) | skip
        exact ih x25   (by omega) (by omega) (by omega)
set_option maxHeartbeats 4000000 in
set_option maxRecDepth 100000 in
theorem l_X7_leastJoined_L31 {Z : jZ} {I : jI} {L : jL} {Q : Int64 → jI → jL → Prop} (w_I : WD Z I) (v0 : Nat) (v1 : Int32) (v2 : Nat) (v3 : Int32) (v4 : Int32) (kv0 : jk Z v0 7) (kv2 : jk Z v2 7) (v5 : Int32) (v9 : Int64) (hQ : ∀ (r : Int64), Q r I L) : ∀ (n : Nat) (v6 : Int32) (v7 : Int64) (v11 : Int32) ,   (0 ≤ v11.toInt ∧ v11.toInt ≤ 1048576 ∧ 0 ≤ v6.toInt ∧ v6.toInt ≤ 1048576) → 1048576 - v11.toInt < (n : Int) → f_X7_leastJoined_L31  Z Q n v0 v1 v2 v3 v4 v5 v6 v7 v9 v11 I L := by
  intro n
  induction n with
  | zero =>
    intro v6 v7 v11   li  me
    exfalso
    omega
  | succ n ih =>
    intro v6 v7 v11   li  me
    unfold f_X7_leastJoined_L31
    have rv6 := i_rng v6
    have rv11 := i_rng v11
    have rv5 := i_rng v5
    have rv1 := i_rng v1
    have rv3 := i_rng v3
    have rv4 := i_rng v4
    refine s_X7_sizeAt w_I v0 v1 kv0   (fun r26 p27 => ?_)
    obtain ⟨b28, eb28, kb28, lb28⟩ := sh_f w_I.1 kv0 (j := 1) (k := 14) (m := 25) rfl
    have t30 : 0 < r26.toInt → (0 ≤ v1.toInt ∧ v1.toInt ≤ 24 ∧ 0 ≤ (I b28 v1.toNatClampNeg).toInt ∧ (I b28 v1.toNatClampNeg).toInt + r26.toInt ≤ (I v0 3).toInt) := fun h9 => ⟨(p27.2.2 h9).1, (p27.2.2 h9).2.1, (p27.2.2 h9).2.2 _ eb28⟩
    have t31 := rw3 w_I kv0
    obtain ⟨p27_0, p27_1, p27_2⟩ := p27
    have rr26 := i_rng r26
    refine ⟨fun c32 => ?_, fun c32 => ?_⟩
    · skip
      first | (have t33 : r26.toInt ≤ v11.toInt := (i_le rfl rfl).mp c32) | (have t33 : r26.toInt ≤ v11.toInt := (i_le rfl rfl).mp c32) | skip
      unfold f_X7_leastJoined_b148
      exact hQ v7 
    · skip
      first | (have t34 : ¬ (r26.toInt ≤ v11.toInt) := (not_congr (i_le rfl rfl)).mp c32) | (have t34 : ¬ (r26.toInt ≤ v11.toInt) := (not_congr (i_le rfl rfl)).mp c32) | skip
      refine ⟨fun c35 => ?_, fun c35 => ?_⟩
      · skip
        first | (have t36 : v5.toInt ≤ (0) := (i_le rfl (show (0 : Int32).toInt = 0 from rfl)).mp c35) | (have t36 : v5.toInt ≤ (0 : Int32).toInt := (i_le rfl rfl).mp c35) | skip
        unfold f_X7_leastJoined_b148
        exact hQ v7 
      · skip
        first | (have t37 : ¬ (v5.toInt ≤ (0)) := (not_congr (i_le rfl (show (0 : Int32).toInt = 0 from rfl))).mp c35) | (have t37 : ¬ (v5.toInt ≤ (0 : Int32).toInt) := (not_congr (i_le rfl rfl)).mp c35) | skip
        intro b38 eb38
        obtain ⟨x39, ex39, kb38⟩ := sh_o w_I.1 kv0 (j := 0) (k := 15) rfl
        cases eb38.symm.trans ex39
        have t40 := rw0 w_I kv0 eb38
        intro b41 eb41
        obtain rfl : b28 = b41 := Option.some.inj (eb28.symm.trans eb41)
        have o42 : vp_in v1 25 := vi_of rfl (by omega) (by omega)
        refine ⟨o42, ?_⟩
        have o43 : vp_in ((I b28 v1.toNatClampNeg) + v11) (jlen Z b38) := vi_of (i_add rfl rfl (by omega) (by omega)) (by omega) (by omega)
        refine ⟨o43, ?_⟩
        intro x44 ex44
        refine ⟨fun c45 => ?_, fun c45 => ?_⟩
        · skip
          first | (have t46 : (lg_cmp (x44 + v9) v7).toInt < (0) := (i_lt rfl (show (0 : Int32).toInt = 0 from rfl)).mp c45) | (have t46 : (lg_cmp (x44 + v9) v7).toInt < (0 : Int32).toInt := (i_lt rfl rfl).mp c45) | skip
          refine s_X11_effortIn w_I x44    (fun r47 p48 => ?_)
          have rr47 := i_rng r47
          intro x49 ex49
          have rx49 := i_rng x49
          first | (have tx49 : x49.toInt = (v4.toInt - r47.toInt) := by (rw [ex49]; exact (i_sub rfl rfl (by omega) (by omega)))) | (have tx49 : x49.toInt = (v4 - r47).toInt := by rw [ex49])
          exact ⟨(v6.toInt).toNat + 1, l_X7_leastJoined_L86 w_I v0 v1 v2 v3 v4 kv0 kv2 v5 v7 v9 v11 x44 x49  hQ ih  _ v6   (by omega) (by omega) (by omega)⟩
        · skip
          first | (have t50 : ¬ ((lg_cmp (x44 + v9) v7).toInt < (0)) := (not_congr (i_lt rfl (show (0 : Int32).toInt = 0 from rfl))).mp c45) | (have t50 : ¬ ((lg_cmp (x44 + v9) v7).toInt < (0 : Int32).toInt) := (not_congr (i_lt rfl rfl)).mp c45) | skip
          exact hQ v7 
set_option maxHeartbeats 4000000 in
set_option maxRecDepth 100000 in
theorem s_X7_leastJoined {Z : jZ} {I : jI} {L : jL} (w_I : WD Z I) (v0 : Nat) (v1 : Int32) (v2 : Nat) (v3 : Int32) (v4 : Int32) (kv0 : jk Z v0 7) (kv2 : jk Z v2 7) {Q : Int64 → jI → jL → Prop} (hQ : ∀ (r : Int64), Q r I L) : f_X7_leastJoined v0 v1 v2 v3 v4 Z I L Q := by
  unfold f_X7_leastJoined
  have rv1 := i_rng v1
  have rv3 := i_rng v3
  have rv4 := i_rng v4
  refine s_X7_sizeAt w_I v2 v3 kv2   (fun r51 p52 => ?_)
  obtain ⟨b53, eb53, kb53, lb53⟩ := sh_f w_I.1 kv2 (j := 1) (k := 14) (m := 25) rfl
  have t55 : 0 < r51.toInt → (0 ≤ v3.toInt ∧ v3.toInt ≤ 24 ∧ 0 ≤ (I b53 v3.toNatClampNeg).toInt ∧ (I b53 v3.toNatClampNeg).toInt + r51.toInt ≤ (I v2 3).toInt) := fun h9 => ⟨(p52.2.2 h9).1, (p52.2.2 h9).2.1, (p52.2.2 h9).2.2 _ eb53⟩
  have t56 := rw3 w_I kv2
  obtain ⟨p52_0, p52_1, p52_2⟩ := p52
  have rr51 := i_rng r51
  have t57 : (0 : Int32).toInt = 0 := rfl
  refine s_X7_keyAt w_I v2 v3 (0 : Int32) kv2   (fun r58  => ?_)
  intro x59 ex59
  have t60 : (0 : Int32).toInt = 0 := rfl
  exact ⟨(1048576 - (0 : Int32).toInt).toNat + 1, l_X7_leastJoined_L31 w_I v0 v1 v2 v3 v4 kv0 kv2 r51 x59  hQ   _ r51 (9223372036854775807 : Int64) (0 : Int32)   (by omega)  (by omega)⟩
def Ws_X6_offerBy : List (Nat × Nat) := [(3, 2), (6, 12), (6, 13), (8, 8)]
set_option maxHeartbeats 4000000 in
set_option maxRecDepth 100000 in
theorem l_X6_offerBy_L150 {Z : jZ} {I0 : jI} {Q : jI → jL → Prop} (w0 : WD Z I0) (v0 : Nat) (v1 : Int32) (v2 : Int32) (v3 : Int32) (kv0 : jk Z v0 6) (p0 : 0 ≤ v2.toInt ∧ v2.toInt < v3.toInt ∧ v3.toInt ≤ 24 ∧ v3.toInt - v2.toInt ≤ 3) (v10 : Int64) (hQ : ∀  (I' : jI) (L' : jL), WD Z I' → FR Ws_X6_offerBy Z I0 Z I' → Q I' L') : ∀ (n : Nat) (v12 : Int32) (I : jI) (L : jL), WD Z I → FR Ws_X6_offerBy Z I0 Z I →   (0 ≤ v12.toInt ∧ v12.toInt ≤ 21) → 21 - v12.toInt < (n : Int) → f_X6_offerBy_L150  Z Q n v0 v10 v12 I L := by
  intro n
  induction n with
  | zero =>
    intro v12 I L w_I q_I   li  me
    exfalso
    omega
  | succ n ih =>
    intro v12 I L w_I q_I   li  me
    unfold f_X6_offerBy_L150
    have rv12 := i_rng v12
    have rv1 := i_rng v1
    have rv2 := i_rng v2
    have rv3 := i_rng v3
    refine ⟨fun c1 => ?_, fun c1 => ?_⟩
    · skip
      first | (have t2 : (20) < v12.toInt := (i_lt (show (20 : Int32).toInt = 20 from rfl) rfl).mp c1) | (have t2 : (20 : Int32).toInt < v12.toInt := (i_lt rfl rfl).mp c1) | skip
      exact hQ  I L w_I q_I 
    · skip
      first | (have t3 : ¬ ((20) < v12.toInt) := (not_congr (i_lt (show (20 : Int32).toInt = 20 from rfl) rfl)).mp c1) | (have t3 : ¬ ((20 : Int32).toInt < v12.toInt) := (not_congr (i_lt rfl rfl)).mp c1) | skip
      intro b4 eb4
      obtain ⟨x5, ex5, kb4, lb4⟩ := sh_f w_I.1 kv0 (j := 13) (k := 14) (m := 21) rfl
      cases eb4.symm.trans ex5
      have o6 : vp_in v12 21 := vi_of rfl (by omega) (by omega)
      refine ⟨o6, ?_⟩
      intro x7 ex7
      intro b8 eb8
      obtain ⟨x9, ex9, kb8, lb8⟩ := sh_f w_I.1 kv0 (j := 11) (k := 15) (m := 21) rfl
      cases eb8.symm.trans ex9
      have o10 : vp_in v12 21 := vi_of rfl (by omega) (by omega)
      refine ⟨o10, ?_⟩
      refine ⟨fun c11 => ?_, fun c11 => ?_⟩
      · skip
        first | (have t12 : (0) ≤ (lg_cmp x7 (L b8 v12.toNatClampNeg)).toInt := (i_le (show (0 : Int32).toInt = 0 from rfl) rfl).mp c11) | (have t12 : (0 : Int32).toInt ≤ (lg_cmp x7 (L b8 v12.toNatClampNeg)).toInt := (i_le rfl rfl).mp c11) | skip
        unfold f_X6_offerBy_b209
        intro x13 ex13
        have rx13 := i_rng x13
        first | (have tx13 : x13.toInt = v12.toInt + (1) := by (rw [ex13]; exact (i_add rfl (show (1 : Int32).toInt = 1 from rfl) (by omega) (by omega)))) | skip
        exact ih x13 I L w_I q_I   (by omega)  (by omega)
      · skip
        first | (have t14 : ¬ ((0) ≤ (lg_cmp x7 (L b8 v12.toNatClampNeg)).toInt) := (not_congr (i_le (show (0 : Int32).toInt = 0 from rfl) rfl)).mp c11) | (have t14 : ¬ ((0 : Int32).toInt ≤ (lg_cmp x7 (L b8 v12.toNatClampNeg)).toInt) := (not_congr (i_le rfl rfl)).mp c11) | skip
        intro b15 eb15
        obtain rfl : b8 = b15 := Option.some.inj (eb8.symm.trans eb15)
        have o16 : vp_in v12 21 := vi_of rfl (by omega) (by omega)
        refine ⟨o16, ?_⟩
        intro L17 eL17
        intro b18 eb18
        obtain ⟨x19, ex19, kb18, lb18⟩ := sh_f w_I.1 kv0 (j := 12) (k := 14) (m := 21) rfl
        cases eb18.symm.trans ex19
        intro b20 eb20
        obtain rfl : b4 = b20 := Option.some.inj (eb4.symm.trans eb20)
        have o21 : vp_in v12 21 := vi_of rfl (by omega) (by omega)
        refine ⟨o21, ?_⟩
        have o22 : vp_in v12 21 := vi_of rfl (by omega) (by omega)
        refine ⟨o22, ?_⟩
        intro I23 eI23
        have w_I23 : WD Z I23 := by rw [eI23]; exact WD_putA w_I 6 12 kv0 eb18 kb18 rfl rfl (by decide) trivial
        have f_I23 : FR [(6, 12)] Z I Z I23 := by rw [eI23]; exact FR_upA w_I.2.1 kv0 eb18 kb18 rfl rfl List.mem_cons_self
        have q_I23 : FR Ws_X6_offerBy Z I0 Z I23 := q_I.trans w0.1 w0.2.1 (f_I23.mono (by decide))
        unfold f_X6_offerBy_b209
        intro x24 ex24
        have rx24 := i_rng x24
        first | (have tx24 : x24.toInt = v12.toInt + (1) := by (rw [ex24]; exact (i_add rfl (show (1 : Int32).toInt = 1 from rfl) (by omega) (by omega)))) | skip
        exact ih x24 I23 L17 w_I23 q_I23   (by omega)  (by omega)
set_option maxHeartbeats 4000000 in
set_option maxRecDepth 100000 in
theorem s_X6_offerBy {Z : jZ} {I : jI} {L : jL} (w_I : WD Z I) (v0 : Nat) (v1 : Int32) (v2 : Int32) (v3 : Int32) (kv0 : jk Z v0 6) (p0 : 0 ≤ v2.toInt ∧ v2.toInt < v3.toInt ∧ v3.toInt ≤ 24 ∧ v3.toInt - v2.toInt ≤ 3) {Q : jI → jL → Prop} (hQ : ∀  (I' : jI) (L' : jL), WD Z I' → FR Ws_X6_offerBy Z I Z I' → Q I' L') : f_X6_offerBy v0 v1 v2 v3 Z I L Q := by
  unfold f_X6_offerBy
  have q_I : FR Ws_X6_offerBy Z I Z I := FR.rf
  have rv1 := i_rng v1
  have rv2 := i_rng v2
  have rv3 := i_rng v3
  intro x25 ex25
  have rx25 := i_rng x25
  first | (have tx25 : x25.toInt = (v3.toInt - v2.toInt) := by (rw [ex25]; exact (i_sub rfl rfl (by omega) (by omega)))) | (have tx25 : x25.toInt = (v3 - v2).toInt := by rw [ex25])
  intro b26 eb26
  obtain ⟨x27, ex27, kb26⟩ := sh_o w_I.1 kv0 (j := 9) (k := 7) rfl
  cases eb26.symm.trans ex27
  intro b28 eb28
  obtain ⟨x29, ex29, kb28⟩ := sh_o w_I.1 kv0 (j := 10) (k := 7) rfl
  cases eb28.symm.trans ex29
  intro b30 eb30
  obtain ⟨x31, ex31, kb30, lb30⟩ := sh_f w_I.1 kv0 (j := 5) (k := 14) (m := 75) rfl
  cases eb30.symm.trans ex31
  refine s_X6_moveTo w_I v3 x25   (by omega) (fun r32 p33 => ?_)
  have rr32 := i_rng r32
  have o34 : vp_in r32 75 := vi_of rfl (by omega) (by omega)
  refine ⟨o34, ?_⟩
  try (have t35 : ((I v0 1) - (I b30 r32.toNatClampNeg)).toInt = ((I v0 1).toInt - (I b30 r32.toNatClampNeg).toInt) := (i_sub rfl rfl (by omega) (by omega)))
  refine s_X7_leastJoined w_I b26 v2 b28 v3 ((I v0 1) - (I b30 r32.toNatClampNeg)) kb26 kb28   (fun r36  => ?_)
  refine ⟨fun c37 => ?_, fun c37 => ?_⟩
  · skip
    first | (have t38 : (lg_cmp r36 (9223372036854775807 : Int64)).toInt = (0) := (i_eq rfl (show (0 : Int32).toInt = 0 from rfl)).mp c37) | (have t38 : (lg_cmp r36 (9223372036854775807 : Int64)).toInt = (0 : Int32).toInt := (i_eq rfl rfl).mp c37) | skip
    exact hQ  I L w_I q_I 
  · skip
    first | (have t39 : ¬ ((lg_cmp r36 (9223372036854775807 : Int64)).toInt = (0)) := (not_congr (i_eq rfl (show (0 : Int32).toInt = 0 from rfl))).mp c37) | (have t39 : ¬ ((lg_cmp r36 (9223372036854775807 : Int64)).toInt = (0 : Int32).toInt) := (not_congr (i_eq rfl rfl)).mp c37) | skip
    intro b40 eb40
    obtain ⟨x41, ex41, kb40⟩ := sh_o w_I.1 kv0 (j := 0) (k := 8) rfl
    cases eb40.symm.trans ex41
    refine s_X8_has w_I b40 v1 kb40   (fun r42 p43 => ?_)
    have rr42 := i_rng r42
    refine ⟨fun c44 => ?_, fun c44 => ?_⟩
    · skip
      first | (have t45 : ¬ (r42.toInt = (0)) := (not_congr (i_eq rfl (show (0 : Int32).toInt = 0 from rfl))).mp c44) | (have t45 : ¬ (r42.toInt = (0 : Int32).toInt) := (not_congr (i_eq rfl rfl)).mp c44) | skip
      refine ⟨fun c46 => ?_, fun c46 => ?_⟩
      · skip
        first | (have t47 : ¬ (v3.toInt = (v1.toInt + (1))) := (not_congr (i_eq rfl (i_add rfl (show (1 : Int32).toInt = 1 from rfl) (by omega) (by omega)))).mp c46) | (have t47 : ¬ (v3.toInt = (v1 + (1 : Int32)).toInt) := (not_congr (i_eq rfl rfl)).mp c46) | skip
        unfold f_X6_offerBy_b69
        intro b48 eb48
        obtain rfl : b40 = b48 := Option.some.inj (eb40.symm.trans eb48)
        intro b49 eb49
        obtain ⟨x50, ex50, kb49, lb49⟩ := sh_f w_I.1 kv0 (j := 13) (k := 14) (m := 21) rfl
        cases eb49.symm.trans ex50
        have t51 : (1 : Int32).toInt = 1 := rfl
        try (have t52 : (v2 - (1 : Int32)).toInt = (v2.toInt - (1)) := (i_sub rfl (show (1 : Int32).toInt = 1 from rfl) (by omega) (by omega)))
        try (have t53 : (x25 - (1 : Int32)).toInt = (x25.toInt - (1)) := (i_sub rfl (show (1 : Int32).toInt = 1 from rfl) (by omega) (by omega)))
        refine s_X8_pricesInto w_I b40 b49 (1 : Int32) v1 (v2 - (1 : Int32)) (x25 - (1 : Int32)) (I v0 14) kb40 kb49 v0 6 13 kv0 eb49 (by decide) rfl (by omega) (by intro i v; first | trivial | exact p1 i v) (fun  I54 L55 w_I54 f_I54  => ?_)
        have q_I54 : FR Ws_X6_offerBy Z I Z I54 := q_I.trans w_I.1 w_I.2.1 (f_I54.mono (by first | decide | (intro p hp; simp at hp ⊢; omega) | simp))
        intro b56 eb56
        obtain rfl : b40 = b56 := Option.some.inj (eb40.symm.trans eb56)
        intro b57 eb57
        obtain ⟨x58, ex58, kb57, lb57⟩ := sh_f w_I54.1 kb40 (j := 2) (k := 14) (m := 24) rfl
        cases eb57.symm.trans ex58
        have o59 : vp_in v1 24 := vi_of rfl (by omega) (by omega)
        refine ⟨o59, ?_⟩
        have t60 : 0 ≤ (I54 b57 v1.toNatClampNeg).toInt ∧ (I54 b57 v1.toNatClampNeg).toInt ≤ 20 := w_I54.arr 8 2 kb40 eb57 kb57 rfl rfl _
        intro x61 ex61
        have rx61 := i_rng x61
        first | (have tx61 : x61.toInt = (I54 b57 v1.toNatClampNeg).toInt := by (rw [ex61]; exact rfl)) | (have tx61 : x61.toInt = (I54 b57 v1.toNatClampNeg).toInt := by rw [ex61])
        refine s_X11_isAsked w_I54 x61    (fun r62 p63 => ?_)
        have rr62 := i_rng r62
        refine ⟨fun c64 => ?_, fun c64 => ?_⟩
        · skip
          first | (have t65 : r62.toInt = (0) := (i_eq rfl (show (0 : Int32).toInt = 0 from rfl)).mp c64) | (have t65 : r62.toInt = (0 : Int32).toInt := (i_eq rfl rfl).mp c64) | skip
          unfold f_X6_offerBy_b126
          refine s_X6_keyOf w_I54 v0 v3 x25 kv0  (by omega) (fun r66  => ?_)
          intro x67 ex67
          have t68 : (0 : Int32).toInt = 0 := rfl
          exact ⟨(21 - (0 : Int32).toInt).toNat + 1, l_X6_offerBy_L150 w_I v0 v1 v2 v3 kv0 p0 x67  hQ   _ (0 : Int32) I54 L55 w_I54 q_I54   (by omega)  (by omega)⟩
        · skip
          first | (have t69 : ¬ (r62.toInt = (0)) := (not_congr (i_eq rfl (show (0 : Int32).toInt = 0 from rfl))).mp c64) | (have t69 : ¬ (r62.toInt = (0 : Int32).toInt) := (not_congr (i_eq rfl rfl)).mp c64) | skip
          intro b70 eb70
          obtain rfl : b49 = b70 := Option.some.inj (eb49.symm.trans eb70)
          have o71 : vp_in x61 21 := vi_of rfl (by omega) (by omega)
          refine ⟨o71, ?_⟩
          unfold f_X6_offerBy_b126
          refine s_X6_keyOf w_I54 v0 v3 x25 kv0  (by omega) (fun r72  => ?_)
          intro x73 ex73
          have t74 : (0 : Int32).toInt = 0 := rfl
          exact ⟨(21 - (0 : Int32).toInt).toNat + 1, l_X6_offerBy_L150 w_I v0 v1 v2 v3 kv0 p0 x73  hQ   _ (0 : Int32) I54 L55 w_I54 q_I54   (by omega)  (by omega)⟩
      · skip
        first | (have t75 : v3.toInt = (v1.toInt + (1)) := (i_eq rfl (i_add rfl (show (1 : Int32).toInt = 1 from rfl) (by omega) (by omega))).mp c46) | (have t75 : v3.toInt = (v1 + (1 : Int32)).toInt := (i_eq rfl rfl).mp c46) | skip
        unfold f_X6_offerBy_b69
        intro b76 eb76
        obtain rfl : b40 = b76 := Option.some.inj (eb40.symm.trans eb76)
        intro b77 eb77
        obtain ⟨x78, ex78, kb77, lb77⟩ := sh_f w_I.1 kv0 (j := 13) (k := 14) (m := 21) rfl
        cases eb77.symm.trans ex78
        have t79 : (0 : Int32).toInt = 0 := rfl
        try (have t80 : (v2 - (1 : Int32)).toInt = (v2.toInt - (1)) := (i_sub rfl (show (1 : Int32).toInt = 1 from rfl) (by omega) (by omega)))
        try (have t81 : (x25 - (1 : Int32)).toInt = (x25.toInt - (1)) := (i_sub rfl (show (1 : Int32).toInt = 1 from rfl) (by omega) (by omega)))
        refine s_X8_pricesInto w_I b40 b77 (0 : Int32) v1 (v2 - (1 : Int32)) (x25 - (1 : Int32)) (I v0 14) kb40 kb77 v0 6 13 kv0 eb77 (by decide) rfl (by omega) (by intro i v; first | trivial | exact p1 i v) (fun  I82 L83 w_I82 f_I82  => ?_)
        have q_I82 : FR Ws_X6_offerBy Z I Z I82 := q_I.trans w_I.1 w_I.2.1 (f_I82.mono (by first | decide | (intro p hp; simp at hp ⊢; omega) | simp))
        intro b84 eb84
        obtain rfl : b40 = b84 := Option.some.inj (eb40.symm.trans eb84)
        intro b85 eb85
        obtain ⟨x86, ex86, kb85, lb85⟩ := sh_f w_I82.1 kb40 (j := 2) (k := 14) (m := 24) rfl
        cases eb85.symm.trans ex86
        have o87 : vp_in v1 24 := vi_of rfl (by omega) (by omega)
        refine ⟨o87, ?_⟩
        have t88 : 0 ≤ (I82 b85 v1.toNatClampNeg).toInt ∧ (I82 b85 v1.toNatClampNeg).toInt ≤ 20 := w_I82.arr 8 2 kb40 eb85 kb85 rfl rfl _
        intro x89 ex89
        have rx89 := i_rng x89
        first | (have tx89 : x89.toInt = (I82 b85 v1.toNatClampNeg).toInt := by (rw [ex89]; exact rfl)) | (have tx89 : x89.toInt = (I82 b85 v1.toNatClampNeg).toInt := by rw [ex89])
        refine s_X11_isAsked w_I82 x89    (fun r90 p91 => ?_)
        have rr90 := i_rng r90
        refine ⟨fun c92 => ?_, fun c92 => ?_⟩
        · skip
          first | (have t93 : r90.toInt = (0) := (i_eq rfl (show (0 : Int32).toInt = 0 from rfl)).mp c92) | (have t93 : r90.toInt = (0 : Int32).toInt := (i_eq rfl rfl).mp c92) | skip
          unfold f_X6_offerBy_b126
          refine s_X6_keyOf w_I82 v0 v3 x25 kv0  (by omega) (fun r94  => ?_)
          intro x95 ex95
          have t96 : (0 : Int32).toInt = 0 := rfl
          exact ⟨(21 - (0 : Int32).toInt).toNat + 1, l_X6_offerBy_L150 w_I v0 v1 v2 v3 kv0 p0 x95  hQ   _ (0 : Int32) I82 L83 w_I82 q_I82   (by omega)  (by omega)⟩
        · skip
          first | (have t97 : ¬ (r90.toInt = (0)) := (not_congr (i_eq rfl (show (0 : Int32).toInt = 0 from rfl))).mp c92) | (have t97 : ¬ (r90.toInt = (0 : Int32).toInt) := (not_congr (i_eq rfl rfl)).mp c92) | skip
          intro b98 eb98
          obtain rfl : b77 = b98 := Option.some.inj (eb77.symm.trans eb98)
          have o99 : vp_in x89 21 := vi_of rfl (by omega) (by omega)
          refine ⟨o99, ?_⟩
          unfold f_X6_offerBy_b126
          refine s_X6_keyOf w_I82 v0 v3 x25 kv0  (by omega) (fun r100  => ?_)
          intro x101 ex101
          have t102 : (0 : Int32).toInt = 0 := rfl
          exact ⟨(21 - (0 : Int32).toInt).toNat + 1, l_X6_offerBy_L150 w_I v0 v1 v2 v3 kv0 p0 x101  hQ   _ (0 : Int32) I82 L83 w_I82 q_I82   (by omega)  (by omega)⟩
    · skip
      first | (have t103 : r42.toInt = (0) := (i_eq rfl (show (0 : Int32).toInt = 0 from rfl)).mp c44) | (have t103 : r42.toInt = (0 : Int32).toInt := (i_eq rfl rfl).mp c44) | skip
      exact hQ  I L w_I q_I 
set_option maxHeartbeats 4000000 in
set_option maxRecDepth 100000 in
theorem l_X6_addOffers_L88 {Z : jZ} {I0 : jI} {Q : jI → jL → Prop} (w0 : WD Z I0) (v0 : Nat) (v1 : Int32) (v2 : Nat) (v3 : Nat) (kv0 : jk Z v0 6) (kv2 : jk Z v2 14) (kv3 : jk Z v3 14) (o2_ c2_ j2_ : Nat) (ho2 : jk Z o2_ c2_) (hr2 : jr Z o2_ j2_ = some v2) (h72 : c2_ ≠ 7) (hs2 : jsr c2_ j2_ = false) (o3_ c3_ j3_ : Nat) (ho3 : jk Z o3_ c3_) (hr3 : jr Z o3_ j3_ = some v3) (h73 : c3_ ≠ 7) (hs3 : jsr c3_ j3_ = false) (p0 : jlen Z v2 = 21) (p1 : jlen Z v3 = 21) (p2 : ∀ i v, okA c2_ j2_ i v) (p3 : ∀ i v, okA c3_ j3_ i v) (p4 : 0 ≤ v1.toInt ∧ v1.toInt ≤ 23) (hQ : ∀  (I' : jI) (L' : jL), WD Z I' → FR ((c2_, j2_) :: (c3_, j3_) :: [(3, 2), (6, 12), (6, 13), (8, 8)]) Z I0 Z I' → Q I' L') : ∀ (n : Nat) (v4 : Int32) (I : jI) (L : jL), WD Z I → FR ((c2_, j2_) :: (c3_, j3_) :: [(3, 2), (6, 12), (6, 13), (8, 8)]) Z I0 Z I →   (0 ≤ v4.toInt ∧ v4.toInt ≤ 21) → 21 - v4.toInt < (n : Int) → f_X6_addOffers_L88  Z Q n v0 v2 v3 v4 I L := by
  intro n
  induction n with
  | zero =>
    intro v4 I L w_I q_I   li  me
    exfalso
    omega
  | succ n ih =>
    intro v4 I L w_I q_I   li  me
    unfold f_X6_addOffers_L88
    have rv4 := i_rng v4
    have rv1 := i_rng v1
    refine ⟨fun c1 => ?_, fun c1 => ?_⟩
    · skip
      first | (have t2 : (20) < v4.toInt := (i_lt (show (20 : Int32).toInt = 20 from rfl) rfl).mp c1) | (have t2 : (20 : Int32).toInt < v4.toInt := (i_lt rfl rfl).mp c1) | skip
      exact hQ  I L w_I q_I 
    · skip
      first | (have t3 : ¬ ((20) < v4.toInt) := (not_congr (i_lt (show (20 : Int32).toInt = 20 from rfl) rfl)).mp c1) | (have t3 : ¬ ((20 : Int32).toInt < v4.toInt) := (not_congr (i_lt rfl rfl)).mp c1) | skip
      intro b4 eb4
      obtain ⟨x5, ex5, kb4, lb4⟩ := sh_f w_I.1 kv0 (j := 11) (k := 15) (m := 21) rfl
      cases eb4.symm.trans ex5
      have o6 : vp_in v4 21 := vi_of rfl (by omega) (by omega)
      refine ⟨o6, ?_⟩
      refine ⟨fun c7 => ?_, fun c7 => ?_⟩
      · skip
        first | (have t8 : (lg_cmp (L b4 v4.toNatClampNeg) (9223372036854775807 : Int64)).toInt = (0) := (i_eq rfl (show (0 : Int32).toInt = 0 from rfl)).mp c7) | (have t8 : (lg_cmp (L b4 v4.toNatClampNeg) (9223372036854775807 : Int64)).toInt = (0 : Int32).toInt := (i_eq rfl rfl).mp c7) | skip
        unfold f_X6_addOffers_b148
        intro x9 ex9
        have rx9 := i_rng x9
        first | (have tx9 : x9.toInt = v4.toInt + (1) := by (rw [ex9]; exact (i_add rfl (show (1 : Int32).toInt = 1 from rfl) (by omega) (by omega)))) | skip
        exact ih x9 I L w_I q_I   (by omega)  (by omega)
      · skip
        first | (have t10 : ¬ ((lg_cmp (L b4 v4.toNatClampNeg) (9223372036854775807 : Int64)).toInt = (0)) := (not_congr (i_eq rfl (show (0 : Int32).toInt = 0 from rfl))).mp c7) | (have t10 : ¬ ((lg_cmp (L b4 v4.toNatClampNeg) (9223372036854775807 : Int64)).toInt = (0 : Int32).toInt) := (not_congr (i_eq rfl rfl)).mp c7) | skip
        intro b11 eb11
        obtain rfl : b4 = b11 := Option.some.inj (eb4.symm.trans eb11)
        have o12 : vp_in v4 21 := vi_of rfl (by omega) (by omega)
        refine ⟨o12, ?_⟩
        refine s_X11_costIn w_I (L b4 v4.toNatClampNeg)    (fun r13  => ?_)
        have rr13 := i_rng r13
        refine ⟨fun c14 => ?_, fun c14 => ?_⟩
        · skip
          first | (have t15 : (I v0 2).toInt < r13.toInt := (i_lt rfl rfl).mp c14) | (have t15 : (I v0 2).toInt < r13.toInt := (i_lt rfl rfl).mp c14) | skip
          unfold f_X6_addOffers_b148
          intro x16 ex16
          have rx16 := i_rng x16
          first | (have tx16 : x16.toInt = v4.toInt + (1) := by (rw [ex16]; exact (i_add rfl (show (1 : Int32).toInt = 1 from rfl) (by omega) (by omega)))) | skip
          exact ih x16 I L w_I q_I   (by omega)  (by omega)
        · skip
          first | (have t17 : ¬ ((I v0 2).toInt < r13.toInt) := (not_congr (i_lt rfl rfl)).mp c14) | (have t17 : ¬ ((I v0 2).toInt < r13.toInt) := (not_congr (i_lt rfl rfl)).mp c14) | skip
          have o18 : vp_in v4 (jlen Z v2) := vi_of rfl (by omega) (by omega)
          refine ⟨o18, ?_⟩
          intro b19 eb19
          obtain ⟨x20, ex20, kb19, lb19⟩ := sh_f w_I.1 kv0 (j := 12) (k := 14) (m := 21) rfl
          cases eb19.symm.trans ex20
          have o21 : vp_in v4 21 := vi_of rfl (by omega) (by omega)
          refine ⟨o21, ?_⟩
          have o22 : vp_in v4 (jlen Z v2) := vi_of rfl (by omega) (by omega)
          refine ⟨o22, ?_⟩
          intro I23 eI23
          try (have t24 : ((I v2 v4.toNatClampNeg) + (I b19 v4.toNatClampNeg)).toInt = ((I v2 v4.toNatClampNeg).toInt + (I b19 v4.toNatClampNeg).toInt) := (i_add rfl rfl (by omega) (by omega)))
          have w_I23 : WD Z I23 := by rw [eI23]; exact WD_putA w_I c2_ j2_ ho2 hr2 kv2 rfl hs2 h72 (p2 _ _)
          have f_I23 : FR [(c2_, j2_)] Z I Z I23 := by rw [eI23]; exact FR_upA w_I.2.1 ho2 hr2 kv2 rfl hs2 List.mem_cons_self
          have q_I23 : FR ((c2_, j2_) :: (c3_, j3_) :: [(3, 2), (6, 12), (6, 13), (8, 8)]) Z I0 Z I23 := q_I.trans w0.1 w0.2.1 (f_I23.mono (by simp))
          have o25 : vp_in v4 (jlen Z v3) := vi_of rfl (by omega) (by omega)
          refine ⟨o25, ?_⟩
          have o26 : vp_in v4 (jlen Z v3) := vi_of rfl (by omega) (by omega)
          refine ⟨o26, ?_⟩
          intro I27 eI27
          try (have t28 : ((I23 v3 v4.toNatClampNeg) + (1 : Int32)).toInt = ((I23 v3 v4.toNatClampNeg).toInt + (1)) := (i_add rfl (show (1 : Int32).toInt = 1 from rfl) (by omega) (by omega)))
          have w_I27 : WD Z I27 := by rw [eI27]; exact WD_putA w_I23 c3_ j3_ ho3 hr3 kv3 rfl hs3 h73 (p3 _ _)
          have f_I27 : FR [(c3_, j3_)] Z I23 Z I27 := by rw [eI27]; exact FR_upA w_I23.2.1 ho3 hr3 kv3 rfl hs3 List.mem_cons_self
          have q_I27 : FR ((c2_, j2_) :: (c3_, j3_) :: [(3, 2), (6, 12), (6, 13), (8, 8)]) Z I0 Z I27 := q_I23.trans w0.1 w0.2.1 (f_I27.mono (by simp))
          unfold f_X6_addOffers_b148
          intro x29 ex29
          have rx29 := i_rng x29
          first | (have tx29 : x29.toInt = v4.toInt + (1) := by (rw [ex29]; exact (i_add rfl (show (1 : Int32).toInt = 1 from rfl) (by omega) (by omega)))) | skip
          exact ih x29 I27 L w_I27 q_I27   (by omega)  (by omega)
set_option maxHeartbeats 4000000 in
set_option maxRecDepth 100000 in
theorem l_X6_addOffers_L48 {Z : jZ} {I0 : jI} {Q : jI → jL → Prop} (w0 : WD Z I0) (v0 : Nat) (v1 : Int32) (v2 : Nat) (v3 : Nat) (kv0 : jk Z v0 6) (kv2 : jk Z v2 14) (kv3 : jk Z v3 14) (o2_ c2_ j2_ : Nat) (ho2 : jk Z o2_ c2_) (hr2 : jr Z o2_ j2_ = some v2) (h72 : c2_ ≠ 7) (hs2 : jsr c2_ j2_ = false) (o3_ c3_ j3_ : Nat) (ho3 : jk Z o3_ c3_) (hr3 : jr Z o3_ j3_ = some v3) (h73 : c3_ ≠ 7) (hs3 : jsr c3_ j3_ = false) (p0 : jlen Z v2 = 21) (p1 : jlen Z v3 = 21) (p2 : ∀ i v, okA c2_ j2_ i v) (p3 : ∀ i v, okA c3_ j3_ i v) (p4 : 0 ≤ v1.toInt ∧ v1.toInt ≤ 23) (v4 : Int32) (hQ : ∀  (I' : jI) (L' : jL), WD Z I' → FR ((c2_, j2_) :: (c3_, j3_) :: [(3, 2), (6, 12), (6, 13), (8, 8)]) Z I0 Z I' → Q I' L') {K15 : Nat → Int32 → Nat → Nat → Int32 → jI → jL → Prop} {N15 : Int} (hK15 : ∀ (v4 : Int32) (I : jI) (L : jL), WD Z I → FR ((c2_, j2_) :: (c3_, j3_) :: [(3, 2), (6, 12), (6, 13), (8, 8)]) Z I0 Z I →   (1 ≤ v4.toInt ∧ v1.toInt < v4.toInt ∧ v4.toInt ≤ 27) → 27 - v4.toInt < N15 → K15 v0 v1 v2 v3 v4 I L) : ∀ (n : Nat) (v5 : Int32) (I : jI) (L : jL), WD Z I → FR ((c2_, j2_) :: (c3_, j3_) :: [(3, 2), (6, 12), (6, 13), (8, 8)]) Z I0 Z I →   (0 ≤ v5.toInt ∧ v4.toInt - v5.toInt ≤ 3 ∧ v1.toInt < v4.toInt ∧ v4.toInt ≤ 24 ∧ v5.toInt ≤ v4.toInt) → 27 - v4.toInt ≤ N15 → 24 - v5.toInt < (n : Int) → f_X6_addOffers_L48 K15 Z Q n v0 v1 v2 v3 v4 v5 I L := by
  intro n
  induction n with
  | zero =>
    intro v5 I L w_I q_I   li hm15 me
    exfalso
    omega
  | succ n ih =>
    intro v5 I L w_I q_I   li hm15 me
    unfold f_X6_addOffers_L48
    have rv5 := i_rng v5
    have rv4 := i_rng v4
    have rv1 := i_rng v1
    refine ⟨fun c30 => ?_, fun c30 => ?_⟩
    · skip
      first | (have t31 : v1.toInt < v5.toInt := (i_lt rfl rfl).mp c30) | (have t31 : v1.toInt < v5.toInt := (i_lt rfl rfl).mp c30) | skip
      unfold f_X6_addOffers_b79
      intro x32 ex32
      have rx32 := i_rng x32
      first | (have tx32 : x32.toInt = v4.toInt + (1) := by (rw [ex32]; exact (i_add rfl (show (1 : Int32).toInt = 1 from rfl) (by omega) (by omega)))) | skip
      exact hK15 x32 I L w_I q_I   (by omega)  (by omega)
    · skip
      first | (have t33 : ¬ (v1.toInt < v5.toInt) := (not_congr (i_lt rfl rfl)).mp c30) | (have t33 : ¬ (v1.toInt < v5.toInt) := (not_congr (i_lt rfl rfl)).mp c30) | skip
      intro b34 eb34
      obtain ⟨x35, ex35, kb34, lb34⟩ := sh_f w_I.1 kv0 (j := 6) (k := 16) (m := 25) rfl
      cases eb34.symm.trans ex35
      have o36 : vp_in v4 25 := vi_of rfl (by omega) (by omega)
      refine ⟨o36, ?_⟩
      refine ⟨fun c37 => ?_, fun c37 => ?_⟩
      · skip
        first | (have t38 : (I b34 v4.toNatClampNeg).toInt = (0) := (i_eq rfl (show (0 : Int32).toInt = 0 from rfl)).mp c37) | (have t38 : (I b34 v4.toNatClampNeg).toInt = (0 : Int32).toInt := (i_eq rfl rfl).mp c37) | skip
        unfold f_X6_addOffers_b79
        intro x39 ex39
        have rx39 := i_rng x39
        first | (have tx39 : x39.toInt = v4.toInt + (1) := by (rw [ex39]; exact (i_add rfl (show (1 : Int32).toInt = 1 from rfl) (by omega) (by omega)))) | skip
        exact hK15 x39 I L w_I q_I   (by omega)  (by omega)
      · skip
        first | (have t40 : ¬ ((I b34 v4.toNatClampNeg).toInt = (0)) := (not_congr (i_eq rfl (show (0 : Int32).toInt = 0 from rfl))).mp c37) | (have t40 : ¬ ((I b34 v4.toNatClampNeg).toInt = (0 : Int32).toInt) := (not_congr (i_eq rfl rfl)).mp c37) | skip
        refine s_X6_offerBy w_I v0 v1 v5 v4 kv0  (by omega) (fun  I41 L42 w_I41 f_I41  => ?_)
        have q_I41 : FR ((c2_, j2_) :: (c3_, j3_) :: [(3, 2), (6, 12), (6, 13), (8, 8)]) Z I0 Z I41 := q_I.trans w0.1 w0.2.1 (f_I41.mono (by first | decide | (unfold Ws_X6_offerBy; simp) | simp))
        intro x43 ex43
        have rx43 := i_rng x43
        first | (have tx43 : x43.toInt = v5.toInt + (1) := by (rw [ex43]; exact (i_add rfl (show (1 : Int32).toInt = 1 from rfl) (by omega) (by omega)))) | skip
        exact ih x43 I41 L42 w_I41 q_I41   (by omega) (by omega) (by omega)
set_option maxHeartbeats 4000000 in
set_option maxRecDepth 100000 in
theorem l_X6_addOffers_L15 {Z : jZ} {I0 : jI} {Q : jI → jL → Prop} (w0 : WD Z I0) (v0 : Nat) (v1 : Int32) (v2 : Nat) (v3 : Nat) (kv0 : jk Z v0 6) (kv2 : jk Z v2 14) (kv3 : jk Z v3 14) (o2_ c2_ j2_ : Nat) (ho2 : jk Z o2_ c2_) (hr2 : jr Z o2_ j2_ = some v2) (h72 : c2_ ≠ 7) (hs2 : jsr c2_ j2_ = false) (o3_ c3_ j3_ : Nat) (ho3 : jk Z o3_ c3_) (hr3 : jr Z o3_ j3_ = some v3) (h73 : c3_ ≠ 7) (hs3 : jsr c3_ j3_ = false) (p0 : jlen Z v2 = 21) (p1 : jlen Z v3 = 21) (p2 : ∀ i v, okA c2_ j2_ i v) (p3 : ∀ i v, okA c3_ j3_ i v) (p4 : 0 ≤ v1.toInt ∧ v1.toInt ≤ 23) (hQ : ∀  (I' : jI) (L' : jL), WD Z I' → FR ((c2_, j2_) :: (c3_, j3_) :: [(3, 2), (6, 12), (6, 13), (8, 8)]) Z I0 Z I' → Q I' L') : ∀ (n : Nat) (v4 : Int32) (I : jI) (L : jL), WD Z I → FR ((c2_, j2_) :: (c3_, j3_) :: [(3, 2), (6, 12), (6, 13), (8, 8)]) Z I0 Z I →   (1 ≤ v4.toInt ∧ v1.toInt < v4.toInt ∧ v4.toInt ≤ 27) → 27 - v4.toInt < (n : Int) → f_X6_addOffers_L15  Z Q n v0 v1 v2 v3 v4 I L := by
  intro n
  induction n with
  | zero =>
    intro v4 I L w_I q_I   li  me
    exfalso
    omega
  | succ n ih =>
    intro v4 I L w_I q_I   li  me
    unfold f_X6_addOffers_L15
    have rv4 := i_rng v4
    have rv1 := i_rng v1
    have t45 : 0 ≤ (I v0 15).toInt ∧ (I v0 15).toInt ≤ 24 := w_I.fld 6 15 kv0 (by decide)
    refine ⟨fun c46 => ?_, fun c46 => ?_⟩
    · skip
      first | (have t47 : (I v0 15).toInt < v4.toInt := (i_lt rfl rfl).mp c46) | (have t47 : (I v0 15).toInt < v4.toInt := (i_lt rfl rfl).mp c46) | skip
      unfold f_X6_addOffers_b85
      have t48 : (0 : Int32).toInt = 0 := rfl
      exact ⟨(21 - (0 : Int32).toInt).toNat + 1, l_X6_addOffers_L88 w0 v0 v1 v2 v3 kv0 kv2 kv3 o2_ c2_ j2_ ho2 hr2 h72 hs2 o3_ c3_ j3_ ho3 hr3 h73 hs3 p0 p1 p2 p3 p4   hQ   _ (0 : Int32) I L w_I q_I   (by omega)  (by omega)⟩
    · skip
      first | (have t49 : ¬ ((I v0 15).toInt < v4.toInt) := (not_congr (i_lt rfl rfl)).mp c46) | (have t49 : ¬ ((I v0 15).toInt < v4.toInt) := (not_congr (i_lt rfl rfl)).mp c46) | skip
      have t51 : 0 ≤ (I v0 3).toInt ∧ (I v0 3).toInt ≤ 3 := w_I.fld 6 3 kv0 (by decide)
      refine ⟨fun c52 => ?_, fun c52 => ?_⟩
      · skip
        first | (have t53 : (v1.toInt + (I v0 3).toInt) < v4.toInt := (i_lt (i_add rfl rfl (by omega) (by omega)) rfl).mp c52) | (have t53 : (v1 + (I v0 3)).toInt < v4.toInt := (i_lt rfl rfl).mp c52) | skip
        unfold f_X6_addOffers_b85
        have t54 : (0 : Int32).toInt = 0 := rfl
        exact ⟨(21 - (0 : Int32).toInt).toNat + 1, l_X6_addOffers_L88 w0 v0 v1 v2 v3 kv0 kv2 kv3 o2_ c2_ j2_ ho2 hr2 h72 hs2 o3_ c3_ j3_ ho3 hr3 h73 hs3 p0 p1 p2 p3 p4   hQ   _ (0 : Int32) I L w_I q_I   (by omega)  (by omega)⟩
      · skip
        first | (have t55 : ¬ ((v1.toInt + (I v0 3).toInt) < v4.toInt) := (not_congr (i_lt (i_add rfl rfl (by omega) (by omega)) rfl)).mp c52) | (have t55 : ¬ ((v1 + (I v0 3)).toInt < v4.toInt) := (not_congr (i_lt rfl rfl)).mp c52) | skip
        have t57 : 0 ≤ (I v0 3).toInt ∧ (I v0 3).toInt ≤ 3 := w_I.fld 6 3 kv0 (by decide)
        intro x58 ex58
        have rx58 := i_rng x58
        first | (have tx58 : x58.toInt = (max (0) (v4.toInt - (I v0 3).toInt)) := by (rw [ex58]; exact (i_max (show (0 : Int32).toInt = 0 from rfl) (i_sub rfl rfl (by omega) (by omega))))) | (have tx58 : x58.toInt = (if (0 : Int32) < (v4 - (I v0 3)) then (v4 - (I v0 3)) else (0 : Int32)).toInt := by rw [ex58])
        exact ⟨(24 - x58.toInt).toNat + 1, l_X6_addOffers_L48 w0 v0 v1 v2 v3 kv0 kv2 kv3 o2_ c2_ j2_ ho2 hr2 h72 hs2 o3_ c3_ j3_ ho3 hr3 h73 hs3 p0 p1 p2 p3 p4 v4  hQ ih  _ x58 I L w_I q_I   (by omega) (by omega) (by omega)⟩
set_option maxHeartbeats 4000000 in
set_option maxRecDepth 100000 in
theorem s_X6_addOffers {Z : jZ} {I : jI} {L : jL} (w_I : WD Z I) (v0 : Nat) (v1 : Int32) (v2 : Nat) (v3 : Nat) (kv0 : jk Z v0 6) (kv2 : jk Z v2 14) (kv3 : jk Z v3 14) (o2_ c2_ j2_ : Nat) (ho2 : jk Z o2_ c2_) (hr2 : jr Z o2_ j2_ = some v2) (h72 : c2_ ≠ 7) (hs2 : jsr c2_ j2_ = false) (o3_ c3_ j3_ : Nat) (ho3 : jk Z o3_ c3_) (hr3 : jr Z o3_ j3_ = some v3) (h73 : c3_ ≠ 7) (hs3 : jsr c3_ j3_ = false) (p0 : jlen Z v2 = 21) (p1 : jlen Z v3 = 21) (p2 : ∀ i v, okA c2_ j2_ i v) (p3 : ∀ i v, okA c3_ j3_ i v) (p4 : 0 ≤ v1.toInt ∧ v1.toInt ≤ 23) {Q : jI → jL → Prop} (hQ : ∀  (I' : jI) (L' : jL), WD Z I' → FR ((c2_, j2_) :: (c3_, j3_) :: [(3, 2), (6, 12), (6, 13), (8, 8)]) Z I Z I' → Q I' L') : f_X6_addOffers v0 v1 v2 v3 Z I L Q := by
  unfold f_X6_addOffers
  have q_I : FR ((c2_, j2_) :: (c3_, j3_) :: [(3, 2), (6, 12), (6, 13), (8, 8)]) Z I Z I := FR.rf
  have rv1 := i_rng v1
  intro b59 eb59
  obtain ⟨x60, ex60, kb59, lb59⟩ := sh_f w_I.1 kv0 (j := 11) (k := 15) (m := 21) rfl
  cases eb59.symm.trans ex60
  refine s_J7_fill_d0a16 w_I b59 (9223372036854775807 : Int64) kb59  (by omega) (fun  I61 L62 w_I61 f_I61  => ?_)
  have q_I61 : FR ((c2_, j2_) :: (c3_, j3_) :: [(3, 2), (6, 12), (6, 13), (8, 8)]) Z I Z I61 := q_I.trans w_I.1 w_I.2.1 (f_I61.mono (by first | decide | (unfold Ws_J7_fill_d0a16; simp) | simp))
  intro x63 ex63
  have rx63 := i_rng x63
  first | (have tx63 : x63.toInt = (v1.toInt + (1)) := by (rw [ex63]; exact (i_add rfl (show (1 : Int32).toInt = 1 from rfl) (by omega) (by omega)))) | (have tx63 : x63.toInt = (v1 + (1 : Int32)).toInt := by rw [ex63])
  exact ⟨(27 - x63.toInt).toNat + 1, l_X6_addOffers_L15 w_I v0 v1 v2 v3 kv0 kv2 kv3 o2_ c2_ j2_ ho2 hr2 h72 hs2 o3_ c3_ j3_ ho3 hr3 h73 hs3 p0 p1 p2 p3 p4   hQ   _ x63 I61 L62 w_I61 q_I61   (by omega)  (by omega)⟩
def Ws_X11_weigh : List (Nat × Nat) := [(3, 2), (6, 12), (6, 13), (8, 8), (11, 13), (11, 14)]
set_option maxHeartbeats 4000000 in
set_option maxRecDepth 100000 in
theorem l_X11_weigh_L18 {Z : jZ} {I0 : jI} {Q : jI → jL → Prop} (w0 : WD Z I0) (v0 : Nat) (v1 : Int32) (kv0 : jk Z v0 11) (p0 : 0 ≤ v1.toInt ∧ v1.toInt ≤ 23) (hQ : ∀  (I' : jI) (L' : jL), WD Z I' → FR Ws_X11_weigh Z I0 Z I' → Q I' L') : ∀ (n : Nat) (v2 : Int32) (I : jI) (L : jL), WD Z I → FR Ws_X11_weigh Z I0 Z I →   (0 ≤ v2.toInt ∧ v2.toInt ≤ 6) → 6 - v2.toInt < (n : Int) → f_X11_weigh_L18  Z Q n v0 v1 v2 I L := by
  intro n
  induction n with
  | zero =>
    intro v2 I L w_I q_I   li  me
    exfalso
    omega
  | succ n ih =>
    intro v2 I L w_I q_I   li  me
    unfold f_X11_weigh_L18
    have rv2 := i_rng v2
    have rv1 := i_rng v1
    have t2 : 0 ≤ (I v0 4).toInt ∧ (I v0 4).toInt ≤ 6 := w_I.fld 11 4 kv0 (by decide)
    refine ⟨fun c3 => ?_, fun c3 => ?_⟩
    · skip
      first | (have t4 : (I v0 4).toInt ≤ v2.toInt := (i_le rfl rfl).mp c3) | (have t4 : (I v0 4).toInt ≤ v2.toInt := (i_le rfl rfl).mp c3) | skip
      exact hQ  I L w_I q_I 
    · skip
      first | (have t5 : ¬ ((I v0 4).toInt ≤ v2.toInt) := (not_congr (i_le rfl rfl)).mp c3) | (have t5 : ¬ ((I v0 4).toInt ≤ v2.toInt) := (not_congr (i_le rfl rfl)).mp c3) | skip
      refine s_X11_find w_I v0 v2 kv0   (fun r6 p7 => ?_)
      refine ⟨fun c9 => ?_, fun b8 c9 => ?_⟩
      · skip
        unfold f_X11_weigh_b52
        intro x10 ex10
        have rx10 := i_rng x10
        first | (have tx10 : x10.toInt = v2.toInt + (1) := by (rw [ex10]; exact (i_add rfl (show (1 : Int32).toInt = 1 from rfl) (by omega) (by omega)))) | skip
        exact ih x10 I L w_I q_I   (by omega)  (by omega)
      · skip
        have kb8 : jk Z b8 5 := by first | exact p7 b8 c9 | exact (p7 b8 c9).1 | exact (p7.1 b8 c9).1
        intro b11 eb11
        obtain ⟨x12, ex12, kb11⟩ := sh_o w_I.1 kb8 (j := 8) (k := 6) rfl
        cases eb11.symm.trans ex12
        intro b13 eb13
        obtain ⟨x14, ex14, kb13, lb13⟩ := sh_f w_I.1 kv0 (j := 13) (k := 14) (m := 21) rfl
        cases eb13.symm.trans ex14
        intro b15 eb15
        obtain ⟨x16, ex16, kb15, lb15⟩ := sh_f w_I.1 kv0 (j := 14) (k := 14) (m := 21) rfl
        cases eb15.symm.trans ex16
        refine s_X6_addOffers w_I b11 v1 b13 b15 kb11 kb13 kb15 v0 11 13 kv0 eb13 (by decide) rfl v0 11 14 kv0 eb15 (by decide) rfl (by omega) (by omega) (by intro i v; trivial) (by intro i v; trivial) (by omega) (fun  I17 L18 w_I17 f_I17  => ?_)
        have q_I17 : FR Ws_X11_weigh Z I0 Z I17 := q_I.trans w0.1 w0.2.1 (f_I17.mono (by first | decide | (intro p hp; simp at hp ⊢; omega) | simp))
        unfold f_X11_weigh_b52
        intro x19 ex19
        have rx19 := i_rng x19
        first | (have tx19 : x19.toInt = v2.toInt + (1) := by (rw [ex19]; exact (i_add rfl (show (1 : Int32).toInt = 1 from rfl) (by omega) (by omega)))) | skip
        exact ih x19 I17 L18 w_I17 q_I17   (by omega)  (by omega)
set_option maxHeartbeats 4000000 in
set_option maxRecDepth 100000 in
theorem s_X11_weigh {Z : jZ} {I : jI} {L : jL} (w_I : WD Z I) (v0 : Nat) (v1 : Int32) (kv0 : jk Z v0 11) (p0 : 0 ≤ v1.toInt ∧ v1.toInt ≤ 23) {Q : jI → jL → Prop} (hQ : ∀  (I' : jI) (L' : jL), WD Z I' → FR Ws_X11_weigh Z I Z I' → Q I' L') : f_X11_weigh v0 v1 Z I L Q := by
  unfold f_X11_weigh
  have q_I : FR Ws_X11_weigh Z I Z I := FR.rf
  have rv1 := i_rng v1
  intro b20 eb20
  obtain ⟨x21, ex21, kb20, lb20⟩ := sh_f w_I.1 kv0 (j := 13) (k := 14) (m := 21) rfl
  cases eb20.symm.trans ex21
  have t22 : (0 : Int32).toInt = 0 := rfl
  refine s_J7_fill_53178 w_I b20 (0 : Int32) kb20 v0 11 13 kv0 eb20 (by decide) rfl (by omega) (by intro i; first | trivial | exact p1 i _ | exact p2 i _ | (constructor <;> decide)) (fun  I23 L24 w_I23 f_I23  => ?_)
  have q_I23 : FR Ws_X11_weigh Z I Z I23 := q_I.trans w_I.1 w_I.2.1 (f_I23.mono (by first | decide | (intro p hp; simp at hp ⊢; omega) | simp))
  intro b25 eb25
  obtain ⟨x26, ex26, kb25, lb25⟩ := sh_f w_I23.1 kv0 (j := 14) (k := 14) (m := 21) rfl
  cases eb25.symm.trans ex26
  have t27 : (0 : Int32).toInt = 0 := rfl
  refine s_J7_fill_53178 w_I23 b25 (0 : Int32) kb25 v0 11 14 kv0 eb25 (by decide) rfl (by omega) (by intro i; first | trivial | exact p1 i _ | exact p2 i _ | (constructor <;> decide)) (fun  I28 L29 w_I28 f_I28  => ?_)
  have q_I28 : FR Ws_X11_weigh Z I Z I28 := q_I23.trans w_I.1 w_I.2.1 (f_I28.mono (by first | decide | (intro p hp; simp at hp ⊢; omega) | simp))
  have t30 : (0 : Int32).toInt = 0 := rfl
  exact ⟨(6 - (0 : Int32).toInt).toNat + 1, l_X11_weigh_L18 w_I v0 v1 kv0 p0   hQ   _ (0 : Int32) I28 L29 w_I28 q_I28   (by omega)  (by omega)⟩
def Ws_X11_measureAllAt : List (Nat × Nat) := [(3, 2), (6, 4), (6, 5), (8, 8)]
set_option maxHeartbeats 4000000 in
set_option maxRecDepth 100000 in
theorem l_X11_measureAllAt_L2 {Z : jZ} {I0 : jI} {Q : jI → jL → Prop} (w0 : WD Z I0) (v0 : Nat) (v1 : Int32) (kv0 : jk Z v0 11) (p0 : 0 ≤ v1.toInt ∧ v1.toInt ≤ 23) (hQ : ∀  (I' : jI) (L' : jL), WD Z I' → FR Ws_X11_measureAllAt Z I0 Z I' → Q I' L') : ∀ (n : Nat) (v2 : Int32) (I : jI) (L : jL), WD Z I → FR Ws_X11_measureAllAt Z I0 Z I →   (0 ≤ v2.toInt ∧ v2.toInt ≤ 6) → 6 - v2.toInt < (n : Int) → f_X11_measureAllAt_L2  Z Q n v0 v1 v2 I L := by
  intro n
  induction n with
  | zero =>
    intro v2 I L w_I q_I   li  me
    exfalso
    omega
  | succ n ih =>
    intro v2 I L w_I q_I   li  me
    unfold f_X11_measureAllAt_L2
    have rv2 := i_rng v2
    have rv1 := i_rng v1
    have t2 : 0 ≤ (I v0 4).toInt ∧ (I v0 4).toInt ≤ 6 := w_I.fld 11 4 kv0 (by decide)
    refine ⟨fun c3 => ?_, fun c3 => ?_⟩
    · skip
      first | (have t4 : (I v0 4).toInt ≤ v2.toInt := (i_le rfl rfl).mp c3) | (have t4 : (I v0 4).toInt ≤ v2.toInt := (i_le rfl rfl).mp c3) | skip
      exact hQ  I L w_I q_I 
    · skip
      first | (have t5 : ¬ ((I v0 4).toInt ≤ v2.toInt) := (not_congr (i_le rfl rfl)).mp c3) | (have t5 : ¬ ((I v0 4).toInt ≤ v2.toInt) := (not_congr (i_le rfl rfl)).mp c3) | skip
      refine s_X11_find w_I v0 v2 kv0   (fun r6 p7 => ?_)
      refine ⟨fun c9 => ?_, fun b8 c9 => ?_⟩
      · skip
        unfold f_X11_measureAllAt_b33
        intro x10 ex10
        have rx10 := i_rng x10
        first | (have tx10 : x10.toInt = v2.toInt + (1) := by (rw [ex10]; exact (i_add rfl (show (1 : Int32).toInt = 1 from rfl) (by omega) (by omega)))) | skip
        exact ih x10 I L w_I q_I   (by omega)  (by omega)
      · skip
        have kb8 : jk Z b8 5 := by first | exact p7 b8 c9 | exact (p7 b8 c9).1 | exact (p7.1 b8 c9).1
        intro b11 eb11
        obtain ⟨x12, ex12, kb11⟩ := sh_o w_I.1 kb8 (j := 8) (k := 6) rfl
        cases eb11.symm.trans ex12
        try (have t13 : (v1 + (1 : Int32)).toInt = (v1.toInt + (1)) := (i_add rfl (show (1 : Int32).toInt = 1 from rfl) (by omega) (by omega)))
        try (have t14 : (v1 + (3 : Int32)).toInt = (v1.toInt + (3)) := (i_add rfl (show (3 : Int32).toInt = 3 from rfl) (by omega) (by omega)))
        refine s_X6_measure w_I b11 (v1 + (1 : Int32)) (v1 + (3 : Int32)) kb11   (fun  I15 L16 w_I15 f_I15  => ?_)
        have q_I15 : FR Ws_X11_measureAllAt Z I0 Z I15 := q_I.trans w0.1 w0.2.1 (f_I15.mono (by decide))
        have u17 : (I15 v0 4).toInt = (I v0 4).toInt := by rw [f_I15.2.2.1 v0 11 4 kv0 (by decide) (by decide)]
        unfold f_X11_measureAllAt_b33
        intro x18 ex18
        have rx18 := i_rng x18
        first | (have tx18 : x18.toInt = v2.toInt + (1) := by (rw [ex18]; exact (i_add rfl (show (1 : Int32).toInt = 1 from rfl) (by omega) (by omega)))) | skip
        exact ih x18 I15 L16 w_I15 q_I15   (by omega)  (by omega)
set_option maxHeartbeats 4000000 in
set_option maxRecDepth 100000 in
theorem s_X11_measureAllAt {Z : jZ} {I : jI} {L : jL} (w_I : WD Z I) (v0 : Nat) (v1 : Int32) (kv0 : jk Z v0 11) (p0 : 0 ≤ v1.toInt ∧ v1.toInt ≤ 23) {Q : jI → jL → Prop} (hQ : ∀  (I' : jI) (L' : jL), WD Z I' → FR Ws_X11_measureAllAt Z I Z I' → Q I' L') : f_X11_measureAllAt v0 v1 Z I L Q := by
  unfold f_X11_measureAllAt
  have q_I : FR Ws_X11_measureAllAt Z I Z I := FR.rf
  have rv1 := i_rng v1
  have t19 : (0 : Int32).toInt = 0 := rfl
  exact ⟨(6 - (0 : Int32).toInt).toNat + 1, l_X11_measureAllAt_L2 w_I v0 v1 kv0 p0   hQ   _ (0 : Int32) I L w_I q_I   (by omega)  (by omega)⟩
end
section
def Ws_X7_keepCheapest : List (Nat × Nat) := [(7, 1), (7, 2), (7, 3), (7, 4), (7, 5), (7, 8), (7, 9)]
set_option maxHeartbeats 4000000 in
set_option maxRecDepth 100000 in
theorem l_X7_keepCheapest_L9 {B : Nat × Nat} {T : Nat} {Z0 : jZ} {I0 : jI} {Q : jZ → jI → jL → Prop} (w0 : WD Z0 I0) (v0 : Nat) (v1 : Int32) (v2 : Int32) (v3 : Int32) (kv0 : jk Z0 v0 7) (p0 : 0 ≤ v1.toInt ∧ v1.toInt ≤ 24) (p1 : FI Z0 I0 v0 v1.toNatClampNeg) (p2 : capN Z0 v0 = 1048576 ∨ (I0 v0 3).toInt ≤ 94209) (hQ : ∀  (Z' : jZ) (I' : jI) (L' : jL), WD Z' I' → BUD B Z' T → FR Ws_X7_keepCheapest Z0 I0 Z' I' → CP Z0 Z' → ((I' v0 3).toInt ≤ (I0 v0 3).toInt + 4096 ∧ RO v0 Z0 I0 I') → Q Z' I' L') : ∀ (n : Nat) (v4 : Int32) (v5 : Int32) (Z : jZ) (I : jI) (L : jL), WD Z I → BUD B Z T → FR Ws_X7_keepCheapest Z0 I0 Z I → CP Z0 Z →   ((0 ≤ v5.toInt) ∧ ((I v0 3).toInt ≤ (I0 v0 3).toInt ∨ ((I v0 3).toInt + v4.toInt + 1 ≤ (I0 v0 3).toInt + 4096 ∧ -1 ≤ v4.toInt)) ∧ FI Z I v0 v1.toNatClampNeg ∧ RO v0 Z0 I0 I) → v5.toInt < (n : Int) → f_X7_keepCheapest_L9 B  Q n v0 v1 v3 v4 v5 Z I L := by
  intro n
  induction n with
  | zero =>
    intro v4 v5 Z I L w_I bd_Z q_I cp_Z   li  me
    exfalso
    omega
  | succ n ih =>
    intro v4 v5 Z I L w_I bd_Z q_I cp_Z   li  me
    unfold f_X7_keepCheapest_L9
    have rv4 := i_rng v4
    have rv5 := i_rng v5
    have rv1 := i_rng v1
    have rv2 := i_rng v2
    have rv3 := i_rng v3
    obtain ⟨li0, li1, li2, li3⟩ := li
    have ro_I := li3
    have kv0_0 := kv0
    have kv0 := (q_I.1 _ _ kv0).1
    have cpe := cp_Z v0 kv0_0
    have xq_I := q_I.1
    refine ⟨fun c1 => ?_, fun c1 => ?_⟩
    · skip
      first | (have t2 : v5.toInt ≤ (0) := (i_le rfl (show (0 : Int32).toInt = 0 from rfl)).mp c1) | (have t2 : v5.toInt ≤ (0 : Int32).toInt := (i_le rfl rfl).mp c1) | skip
      exact hQ  Z I L w_I bd_Z q_I cp_Z (by refine ⟨?_, ?_⟩; (omega); exact ro_I)
    · skip
      first | (have t3 : ¬ (v5.toInt ≤ (0)) := (not_congr (i_le rfl (show (0 : Int32).toInt = 0 from rfl))).mp c1) | (have t3 : ¬ (v5.toInt ≤ (0 : Int32).toInt) := (not_congr (i_le rfl rfl)).mp c1) | skip
      refine ⟨fun c4 => ?_, fun c4 => ?_⟩
      · skip
        first | (have t5 : v4.toInt < (0) := (i_lt rfl (show (0 : Int32).toInt = 0 from rfl)).mp c4) | (have t5 : v4.toInt < (0 : Int32).toInt := (i_lt rfl rfl).mp c4) | skip
        exact hQ  Z I L w_I bd_Z q_I cp_Z (by refine ⟨?_, ?_⟩; (omega); exact ro_I)
      · skip
        first | (have t6 : ¬ (v4.toInt < (0)) := (not_congr (i_lt rfl (show (0 : Int32).toInt = 0 from rfl))).mp c4) | (have t6 : ¬ (v4.toInt < (0 : Int32).toInt) := (not_congr (i_lt rfl rfl)).mp c4) | skip
        refine s_X7_take w_I v0 kv0   (fun r7 I9 L10 w_I9 f_I9 p8 => ?_)
        have q_I9 : FR Ws_X7_keepCheapest Z0 I0 Z I9 := q_I.trans w0.1 w0.2.1 (f_I9.mono (by decide))
        obtain ⟨p8_0, p8_1, p8_2⟩ := p8
        have ro_I9 : RO v0 Z0 I0 I9 := RO.trans q_I.1 ro_I p8_2
        refine s_X11_costIn w_I9 r7    (fun r11  => ?_)
        have rr11 := i_rng r11
        refine ⟨fun c12 => ?_, fun c12 => ?_⟩
        · skip
          first | (have t13 : r11.toInt ≤ v3.toInt := (i_le rfl rfl).mp c12) | (have t13 : r11.toInt ≤ v3.toInt := (i_le rfl rfl).mp c12) | skip
          refine s_X11_effortIn w_I9 r7    (fun r14 p15 => ?_)
          have rr14 := i_rng r14
          refine ⟨fun c16 => ?_, fun c16 => ?_⟩
          · skip
            first | (have t17 : v4.toInt < r14.toInt := (i_lt rfl rfl).mp c16) | (have t17 : v4.toInt < r14.toInt := (i_lt rfl rfl).mp c16) | skip
            unfold f_X7_keepCheapest_b61
            intro x18 ex18
            have rx18 := i_rng x18
            first | (have tx18 : x18.toInt = v5.toInt + (-1) := by (rw [ex18]; exact (i_add rfl (show (-1 : Int32).toInt = -1 from rfl) (by omega) (by omega)))) | skip
            exact ih v4 x18 Z I9 L10 w_I9 bd_Z q_I9 cp_Z   (by refine ⟨?_, ?_, ?_, ?_⟩; (omega); (omega); (first | assumption | solve_by_elim); exact ro_I9)  (by omega)
          · skip
            first | (have t19 : ¬ (v4.toInt < r14.toInt) := (not_congr (i_lt rfl rfl)).mp c16) | (have t19 : ¬ (v4.toInt < r14.toInt) := (not_congr (i_lt rfl rfl)).mp c16) | skip
            refine s_X7_push w_I9 bd_Z v0 v1 r7 kv0  (by omega) (by first | assumption | solve_by_elim | (simp only [*]; assumption)) (by omega) (fun  Z23 I21 L22 w_I21 bd_Z23 f_I21 c_Z23 p20 => ?_)
            have q_I21 : FR Ws_X7_keepCheapest Z0 I0 Z23 I21 := q_I9.trans w0.1 w0.2.1 (f_I21.mono (by decide))
            have cp_Z23 : CP Z0 Z23 := cp_Z.trans q_I9.1 c_Z23
            have x_Z23 := f_I21.1
            have k24 := (f_I21.1 _ _ kv0).1
            obtain ⟨p20_0, p20_1, p20_2, p20_3⟩ := p20
            have ro_I21 : RO v0 Z0 I0 I21 := RO.trans q_I9.1 ro_I9 p20_3
            refine s_X11_effortIn w_I21 r7    (fun r25 p26 => ?_)
            have rr25 := i_rng r25
            intro x27 ex27
            have rx27 := i_rng x27
            first | (have tx27 : x27.toInt = (r25.toInt - (1)) := by (rw [ex27]; exact (i_sub rfl (show (1 : Int32).toInt = 1 from rfl) (by omega) (by omega)))) | (have tx27 : x27.toInt = (r25 - (1 : Int32)).toInt := by rw [ex27])
            unfold f_X7_keepCheapest_b61
            intro x28 ex28
            have rx28 := i_rng x28
            first | (have tx28 : x28.toInt = v5.toInt + (-1) := by (rw [ex28]; exact (i_add rfl (show (-1 : Int32).toInt = -1 from rfl) (by omega) (by omega)))) | skip
            exact ih x27 x28 Z23 I21 L22 w_I21 bd_Z23 q_I21 cp_Z23   (by refine ⟨?_, ?_, ?_, ?_⟩; (omega); (omega); (first | assumption | solve_by_elim); exact ro_I21)  (by omega)
        · skip
          first | (have t29 : ¬ (r11.toInt ≤ v3.toInt) := (not_congr (i_le rfl rfl)).mp c12) | (have t29 : ¬ (r11.toInt ≤ v3.toInt) := (not_congr (i_le rfl rfl)).mp c12) | skip
          exact hQ  Z I9 L10 w_I9 bd_Z q_I9 cp_Z (by refine ⟨?_, ?_⟩; (omega); exact ro_I9)
set_option maxHeartbeats 4000000 in
set_option maxRecDepth 100000 in
theorem s_X7_keepCheapest {B : Nat × Nat} {T : Nat} {Z : jZ} {I : jI} {L : jL} (w_I : WD Z I) (bd_Z : BUD B Z T) (v0 : Nat) (v1 : Int32) (v2 : Int32) (v3 : Int32) (kv0 : jk Z v0 7) (p0 : 0 ≤ v1.toInt ∧ v1.toInt ≤ 24) (p1 : FI Z I v0 v1.toNatClampNeg) (p2 : capN Z v0 = 1048576 ∨ (I v0 3).toInt ≤ 94209) {Q : jZ → jI → jL → Prop} (hQ : ∀  (Z' : jZ) (I' : jI) (L' : jL), WD Z' I' → BUD B Z' T → FR Ws_X7_keepCheapest Z I Z' I' → CP Z Z' → ((I' v0 3).toInt ≤ (I v0 3).toInt + 4096 ∧ RO v0 Z I I') → Q Z' I' L') : f_X7_keepCheapest B v0 v1 v2 v3 Z I L Q := by
  unfold f_X7_keepCheapest
  have q_I : FR Ws_X7_keepCheapest Z I Z I := FR.rf
  have ro_I : RO v0 Z I I := RO.rf
  have cp_Z : CP Z Z := CP.rf
  have rv1 := i_rng v1
  have rv2 := i_rng v2
  have rv3 := i_rng v3
  have t30 := rw9 w_I kv0
  intro x31 ex31
  have rx31 := i_rng x31
  first | (have tx31 : x31.toInt = (I v0 9).toInt := by (rw [ex31]; exact rfl)) | (have tx31 : x31.toInt = (I v0 9).toInt := by rw [ex31])
  exact ⟨(x31.toInt).toNat + 1, l_X7_keepCheapest_L9 w_I v0 v1 v2 v3 kv0 p0 p1 p2   hQ   _ v2 x31 Z I L w_I bd_Z q_I cp_Z   (by refine ⟨?_, ?_, ?_, ?_⟩; (omega); (omega); (first | assumption | solve_by_elim); exact ro_I)  (by omega)⟩
def Ws_X0_easiest : List (Nat × Nat) := [(7, 1), (7, 2), (7, 3), (7, 4), (7, 5), (7, 8), (7, 9)]
set_option maxHeartbeats 4000000 in
set_option maxRecDepth 100000 in
theorem l_X0_easiest_L13 {B : Nat × Nat} {T : Nat} {Z0 : jZ} {I0 : jI} {Q : Int64 → jZ → jI → jL → Prop} (w0 : WD Z0 I0) (v0 : Nat) (v1 : Nat) (kv0 : jk Z0 v0 0) (kv1 : jk Z0 v1 6) (u0 : Nat) (hu0 : jr Z0 v0 0 = some u0) (hQ : ∀ (r : Int64) (Z' : jZ) (I' : jI) (L' : jL), WD Z' I' → BUD B Z' T → FR Ws_X0_easiest Z0 I0 Z' I' → CP Z0 Z' → Q r Z' I' L') : ∀ (n : Nat) (v2 : Int32) (Z : jZ) (I : jI) (L : jL), WD Z I → BUD B Z T → FR Ws_X0_easiest Z0 I0 Z I → CP Z0 Z →   (1 ≤ v2.toInt ∧ v2.toInt ≤ 25) → 25 - v2.toInt < (n : Int) → f_X0_easiest_L13 B  Q n v0 v1 v2 Z I L := by
  intro n
  induction n with
  | zero =>
    intro v2 Z I L w_I bd_Z q_I cp_Z   li  me
    exfalso
    omega
  | succ n ih =>
    intro v2 Z I L w_I bd_Z q_I cp_Z   li  me
    unfold f_X0_easiest_L13
    have rv2 := i_rng v2
    have kv0_0 := kv0
    have kv0 := (q_I.1 _ _ kv0).1
    have kv1_0 := kv1
    have kv1 := (q_I.1 _ _ kv1).1
    have hu0_1 : jr Z v0 0 = some u0 := (q_I.2.1 v0 0 0 kv0_0 (by decide) (by decide)).trans hu0
    have ku0 : jk Z u0 7 := by obtain ⟨b9, e9, k9⟩ := sh_o w_I.1 kv0 (j := 0) (k := 7) rfl; cases hu0_1.symm.trans e9; exact k9
    have cu0_9 := capN0 kv0 hu0_1
    have xq_I := q_I.1
    have t2 : 0 ≤ (I v1 15).toInt ∧ (I v1 15).toInt ≤ 24 := w_I.fld 6 15 kv1 (by decide)
    refine ⟨fun c3 => ?_, fun c3 => ?_⟩
    · skip
      first | (have t4 : (I v1 15).toInt < v2.toInt := (i_lt rfl rfl).mp c3) | (have t4 : (I v1 15).toInt < v2.toInt := (i_lt rfl rfl).mp c3) | skip
      intro b5 eb5
      obtain rfl : u0 = b5 := Option.some.inj (hu0_1.symm.trans eb5)
      have t7 : 0 ≤ (I v1 15).toInt ∧ (I v1 15).toInt ≤ 24 := w_I.fld 6 15 kv1 (by decide)
      intro b8 eb8
      obtain rfl : u0 = b8 := Option.some.inj (hu0_1.symm.trans eb8)
      have t10 : 0 ≤ (I v1 15).toInt ∧ (I v1 15).toInt ≤ 24 := w_I.fld 6 15 kv1 (by decide)
      refine s_X7_sizeAt w_I u0 (I v1 15) ku0   (fun r11 p12 => ?_)
      obtain ⟨b13, eb13, kb13, lb13⟩ := sh_f w_I.1 ku0 (j := 1) (k := 14) (m := 25) rfl
      have t15 : 0 < r11.toInt → (0 ≤ (I v1 15).toInt ∧ (I v1 15).toInt ≤ 24 ∧ 0 ≤ (I b13 (I v1 15).toNatClampNeg).toInt ∧ (I b13 (I v1 15).toNatClampNeg).toInt + r11.toInt ≤ (I u0 3).toInt) := fun h9 => ⟨(p12.2.2 h9).1, (p12.2.2 h9).2.1, (p12.2.2 h9).2.2 _ eb13⟩
      have t16 := rw3 w_I ku0
      obtain ⟨p12_0, p12_1, p12_2⟩ := p12
      have rr11 := i_rng r11
      try (have t17 : (r11 - (1 : Int32)).toInt = (r11.toInt - (1)) := (i_sub rfl (show (1 : Int32).toInt = 1 from rfl) (by omega) (by omega)))
      refine s_X7_keyAt w_I u0 (I v1 15) (r11 - (1 : Int32)) ku0   (fun r18  => ?_)
      exact hQ r18 Z I L w_I bd_Z q_I cp_Z 
    · skip
      first | (have t19 : ¬ ((I v1 15).toInt < v2.toInt) := (not_congr (i_lt rfl rfl)).mp c3) | (have t19 : ¬ ((I v1 15).toInt < v2.toInt) := (not_congr (i_lt rfl rfl)).mp c3) | skip
      intro b20 eb20
      obtain rfl : u0 = b20 := Option.some.inj (hu0_1.symm.trans eb20)
      have t21 : (-1 : Int32).toInt = -1 := rfl
      refine s_X6_feed w_I v1 u0 v2 (-1 : Int64) (-1 : Int32) kv1 ku0  (by omega) (fun  I23 L24 w_I23 f_I23 p22 => ?_)
      have q_I23 : FR Ws_X0_easiest Z0 I0 Z I23 := q_I.trans w0.1 w0.2.1 (f_I23.mono (by decide))
      have u25 : (I23 v1 15).toInt = (I v1 15).toInt := by rw [f_I23.2.2.1 v1 6 15 kv1 (by decide) (by decide)]
      obtain ⟨p22_0, p22_1, p22_2⟩ := p22
      intro b26 eb26
      obtain rfl : u0 = b26 := Option.some.inj (hu0_1.symm.trans eb26)
      intro b27 eb27
      obtain ⟨x28, ex28, kb27, lb27⟩ := sh_f w_I23.1 kv1 (j := 7) (k := 14) (m := 25) rfl
      cases eb27.symm.trans ex28
      have o29 : vp_in v2 25 := vi_of rfl (by omega) (by omega)
      refine ⟨o29, ?_⟩
      try (have t30 : ((999 : Int32) - (I23 b27 v2.toNatClampNeg)).toInt = ((999) - (I23 b27 v2.toNatClampNeg).toInt) := (i_sub (show (999 : Int32).toInt = 999 from rfl) rfl (by omega) (by omega)))
      refine s_X7_keepCheapest w_I23 bd_Z u0 v2 ((999 : Int32) - (I23 b27 v2.toNatClampNeg)) (I23 v1 2) ku0  (by omega) (by first | assumption | solve_by_elim | (simp only [*]; assumption)) (by omega) (fun  Z34 I32 L33 w_I32 bd_Z34 f_I32 c_Z34 p31 => ?_)
      have q_I32 : FR Ws_X0_easiest Z0 I0 Z34 I32 := q_I23.trans w0.1 w0.2.1 (f_I32.mono (by decide))
      have cp_Z34 : CP Z0 Z34 := cp_Z.trans q_I23.1 c_Z34
      have x_Z34 := f_I32.1
      have k35 := (f_I32.1 _ _ kv0).1
      have k36 := (f_I32.1 _ _ kv1).1
      have k37 := (f_I32.1 _ _ ku0).1
      have k38 := (f_I32.1 _ _ kv0).1
      have e39 := (f_I32.2.1 v0 0 0 kv0 (by decide) (by decide)).trans hu0_1
      have k40 := (f_I32.1 _ _ kb27).1
      have l41 := (f_I32.1 _ _ kb27).2.trans lb27
      have k42 := (f_I32.1 _ _ kv1).1
      have e43 := (f_I32.2.1 v1 6 7 kv1 (by decide) (by decide)).trans eb27
      have u44 : (I32 v1 15).toInt = (I23 v1 15).toInt := by rw [f_I32.2.2.1 v1 6 15 kv1 (by decide) (by decide)]
      have u45 : (I32 v1 2).toInt = (I23 v1 2).toInt := by rw [f_I32.2.2.1 v1 6 2 kv1 (by decide) (by decide)]
      obtain ⟨p31_0, p31_1⟩ := p31
      intro x46 ex46
      have rx46 := i_rng x46
      first | (have tx46 : x46.toInt = v2.toInt + (1) := by (rw [ex46]; exact (i_add rfl (show (1 : Int32).toInt = 1 from rfl) (by omega) (by omega)))) | skip
      exact ih x46 Z34 I32 L33 w_I32 bd_Z34 q_I32 cp_Z34   (by omega)  (by omega)
set_option maxHeartbeats 4000000 in
set_option maxRecDepth 100000 in
theorem s_X0_easiest {B : Nat × Nat} {T : Nat} {Z : jZ} {I : jI} {L : jL} (w_I : WD Z I) (bd_Z : BUD B Z T) (v0 : Nat) (v1 : Nat) (kv0 : jk Z v0 0) (kv1 : jk Z v1 6) (u0 : Nat) (hu0 : jr Z v0 0 = some u0) {Q : Int64 → jZ → jI → jL → Prop} (hQ : ∀ (r : Int64) (Z' : jZ) (I' : jI) (L' : jL), WD Z' I' → BUD B Z' T → FR Ws_X0_easiest Z I Z' I' → CP Z Z' → Q r Z' I' L') : f_X0_easiest B v0 v1 Z I L Q := by
  unfold f_X0_easiest
  have q_I : FR Ws_X0_easiest Z I Z I := FR.rf
  have cp_Z : CP Z Z := CP.rf
  have ku0 : jk Z u0 7 := by obtain ⟨b9, e9, k9⟩ := sh_o w_I.1 kv0 (j := 0) (k := 7) rfl; cases hu0.symm.trans e9; exact k9
  have cu0_9 := capN0 kv0 hu0
  intro b47 eb47
  obtain rfl : u0 = b47 := Option.some.inj (hu0.symm.trans eb47)
  have t48 : (0 : Int32).toInt = 0 := rfl
  refine s_X7_begin w_I bd_Z u0 (0 : Int32) (16777215 : Int64) ku0  (by omega) (fun  Z52 I50 L51 w_I50 bd_Z52 f_I50 c_Z52 p49 => ?_)
  have q_I50 : FR Ws_X0_easiest Z I Z52 I50 := q_I.trans w_I.1 w_I.2.1 (f_I50.mono (by decide))
  have cp_Z52 : CP Z Z52 := cp_Z.trans q_I.1 c_Z52
  have x_Z52 := f_I50.1
  have k53 := (f_I50.1 _ _ kv0).1
  have k54 := (f_I50.1 _ _ kv1).1
  have k55 := (f_I50.1 _ _ ku0).1
  have k56 := (f_I50.1 _ _ kv0).1
  have e57 := (f_I50.2.1 v0 0 0 kv0 (by decide) (by decide)).trans hu0
  obtain ⟨p49_0, p49_1⟩ := p49
  have t58 : (1 : Int32).toInt = 1 := rfl
  exact ⟨(25 - (1 : Int32).toInt).toNat + 1, l_X0_easiest_L13 w_I v0 v1 kv0 kv1 u0 hu0   hQ   _ (1 : Int32) Z52 I50 L51 w_I50 bd_Z52 q_I50 cp_Z52   (by omega)  (by omega)⟩
def Ws_X7_keepEachCost : List (Nat × Nat) := [(7, 1), (7, 2), (7, 3), (7, 4), (7, 5), (7, 8), (7, 9)]
set_option maxHeartbeats 4000000 in
set_option maxRecDepth 100000 in
theorem l_X7_keepEachCost_L9 {B : Nat × Nat} {T : Nat} {Z0 : jZ} {I0 : jI} {Q : jZ → jI → jL → Prop} (w0 : WD Z0 I0) (v0 : Nat) (v1 : Int32) (v2 : Int32) (v3 : Int32) (kv0 : jk Z0 v0 7) (p0 : 0 ≤ v1.toInt ∧ v1.toInt ≤ 24) (p1 : FI Z0 I0 v0 v1.toNatClampNeg) (p2 : capN Z0 v0 = 1048576) (hQ : ∀  (Z' : jZ) (I' : jI) (L' : jL), WD Z' I' → BUD B Z' T → FR Ws_X7_keepEachCost Z0 I0 Z' I' → CP Z0 Z' → Q Z' I' L') : ∀ (n : Nat) (v4 : Int32) (v5 : Int32) (Z : jZ) (I : jI) (L : jL), WD Z I → BUD B Z T → FR Ws_X7_keepEachCost Z0 I0 Z I → CP Z0 Z →   ((0 ≤ v5.toInt) ∧ FI Z I v0 v1.toNatClampNeg) → v5.toInt < (n : Int) → f_X7_keepEachCost_L9 B  Q n v0 v1 v2 v3 v4 v5 Z I L := by
  intro n
  induction n with
  | zero =>
    intro v4 v5 Z I L w_I bd_Z q_I cp_Z   li  me
    exfalso
    omega
  | succ n ih =>
    intro v4 v5 Z I L w_I bd_Z q_I cp_Z   li  me
    unfold f_X7_keepEachCost_L9
    have rv4 := i_rng v4
    have rv5 := i_rng v5
    have rv1 := i_rng v1
    have rv2 := i_rng v2
    have rv3 := i_rng v3
    obtain ⟨li0, li1⟩ := li
    have kv0_0 := kv0
    have kv0 := (q_I.1 _ _ kv0).1
    have cpe := cp_Z v0 kv0_0
    have xq_I := q_I.1
    refine ⟨fun c1 => ?_, fun c1 => ?_⟩
    · skip
      first | (have t2 : v5.toInt ≤ (0) := (i_le rfl (show (0 : Int32).toInt = 0 from rfl)).mp c1) | (have t2 : v5.toInt ≤ (0 : Int32).toInt := (i_le rfl rfl).mp c1) | skip
      exact hQ  Z I L w_I bd_Z q_I cp_Z 
    · skip
      first | (have t3 : ¬ (v5.toInt ≤ (0)) := (not_congr (i_le rfl (show (0 : Int32).toInt = 0 from rfl))).mp c1) | (have t3 : ¬ (v5.toInt ≤ (0 : Int32).toInt) := (not_congr (i_le rfl rfl)).mp c1) | skip
      refine ⟨fun c4 => ?_, fun c4 => ?_⟩
      · skip
        first | (have t5 : v2.toInt < (0) := (i_lt rfl (show (0 : Int32).toInt = 0 from rfl)).mp c4) | (have t5 : v2.toInt < (0 : Int32).toInt := (i_lt rfl rfl).mp c4) | skip
        exact hQ  Z I L w_I bd_Z q_I cp_Z 
      · skip
        first | (have t6 : ¬ (v2.toInt < (0)) := (not_congr (i_lt rfl (show (0 : Int32).toInt = 0 from rfl))).mp c4) | (have t6 : ¬ (v2.toInt < (0 : Int32).toInt) := (not_congr (i_lt rfl rfl)).mp c4) | skip
        refine s_X7_take w_I v0 kv0   (fun r7 I9 L10 w_I9 f_I9 p8 => ?_)
        have q_I9 : FR Ws_X7_keepEachCost Z0 I0 Z I9 := q_I.trans w0.1 w0.2.1 (f_I9.mono (by decide))
        obtain ⟨p8_0, p8_1, p8_2⟩ := p8
        refine s_X11_costIn w_I9 r7    (fun r11  => ?_)
        have rr11 := i_rng r11
        refine ⟨fun c12 => ?_, fun c12 => ?_⟩
        · skip
          first | (have t13 : r11.toInt ≤ v3.toInt := (i_le rfl rfl).mp c12) | (have t13 : r11.toInt ≤ v3.toInt := (i_le rfl rfl).mp c12) | skip
          refine s_X11_effortIn w_I9 r7    (fun r14 p15 => ?_)
          have rr14 := i_rng r14
          refine ⟨fun c16 => ?_, fun c16 => ?_⟩
          · skip
            first | (have t17 : v2.toInt < r14.toInt := (i_lt rfl rfl).mp c16) | (have t17 : v2.toInt < r14.toInt := (i_lt rfl rfl).mp c16) | skip
            unfold f_X7_keepEachCost_b67
            intro x18 ex18
            have rx18 := i_rng x18
            first | (have tx18 : x18.toInt = v5.toInt + (-1) := by (rw [ex18]; exact (i_add rfl (show (-1 : Int32).toInt = -1 from rfl) (by omega) (by omega)))) | skip
            exact ih v4 x18 Z I9 L10 w_I9 bd_Z q_I9 cp_Z   (by refine ⟨?_, ?_⟩; (omega); (first | assumption | solve_by_elim))  (by omega)
          · skip
            first | (have t19 : ¬ (v2.toInt < r14.toInt) := (not_congr (i_lt rfl rfl)).mp c16) | (have t19 : ¬ (v2.toInt < r14.toInt) := (not_congr (i_lt rfl rfl)).mp c16) | skip
            refine s_X11_costIn w_I9 r7    (fun r20  => ?_)
            have rr20 := i_rng r20
            refine ⟨fun c21 => ?_, fun c21 => ?_⟩
            · skip
              first | (have t22 : r20.toInt = v4.toInt := (i_eq rfl rfl).mp c21) | (have t22 : r20.toInt = v4.toInt := (i_eq rfl rfl).mp c21) | skip
              unfold f_X7_keepEachCost_b67
              intro x23 ex23
              have rx23 := i_rng x23
              first | (have tx23 : x23.toInt = v5.toInt + (-1) := by (rw [ex23]; exact (i_add rfl (show (-1 : Int32).toInt = -1 from rfl) (by omega) (by omega)))) | skip
              exact ih v4 x23 Z I9 L10 w_I9 bd_Z q_I9 cp_Z   (by refine ⟨?_, ?_⟩; (omega); (first | assumption | solve_by_elim))  (by omega)
            · skip
              first | (have t24 : ¬ (r20.toInt = v4.toInt) := (not_congr (i_eq rfl rfl)).mp c21) | (have t24 : ¬ (r20.toInt = v4.toInt) := (not_congr (i_eq rfl rfl)).mp c21) | skip
              refine s_X7_push w_I9 bd_Z v0 v1 r7 kv0  (by omega) (by first | assumption | solve_by_elim | (simp only [*]; assumption)) (by omega) (fun  Z28 I26 L27 w_I26 bd_Z28 f_I26 c_Z28 p25 => ?_)
              have q_I26 : FR Ws_X7_keepEachCost Z0 I0 Z28 I26 := q_I9.trans w0.1 w0.2.1 (f_I26.mono (by decide))
              have cp_Z28 : CP Z0 Z28 := cp_Z.trans q_I9.1 c_Z28
              have x_Z28 := f_I26.1
              have k29 := (f_I26.1 _ _ kv0).1
              obtain ⟨p25_0, p25_1, p25_2, p25_3⟩ := p25
              refine s_X11_costIn w_I26 r7    (fun r30  => ?_)
              have rr30 := i_rng r30
              unfold f_X7_keepEachCost_b67
              intro x31 ex31
              have rx31 := i_rng x31
              first | (have tx31 : x31.toInt = v5.toInt + (-1) := by (rw [ex31]; exact (i_add rfl (show (-1 : Int32).toInt = -1 from rfl) (by omega) (by omega)))) | skip
              exact ih r30 x31 Z28 I26 L27 w_I26 bd_Z28 q_I26 cp_Z28   (by refine ⟨?_, ?_⟩; (omega); (first | assumption | solve_by_elim))  (by omega)
        · skip
          first | (have t32 : ¬ (r11.toInt ≤ v3.toInt) := (not_congr (i_le rfl rfl)).mp c12) | (have t32 : ¬ (r11.toInt ≤ v3.toInt) := (not_congr (i_le rfl rfl)).mp c12) | skip
          exact hQ  Z I9 L10 w_I9 bd_Z q_I9 cp_Z 
set_option maxHeartbeats 4000000 in
set_option maxRecDepth 100000 in
theorem s_X7_keepEachCost {B : Nat × Nat} {T : Nat} {Z : jZ} {I : jI} {L : jL} (w_I : WD Z I) (bd_Z : BUD B Z T) (v0 : Nat) (v1 : Int32) (v2 : Int32) (v3 : Int32) (kv0 : jk Z v0 7) (p0 : 0 ≤ v1.toInt ∧ v1.toInt ≤ 24) (p1 : FI Z I v0 v1.toNatClampNeg) (p2 : capN Z v0 = 1048576) {Q : jZ → jI → jL → Prop} (hQ : ∀  (Z' : jZ) (I' : jI) (L' : jL), WD Z' I' → BUD B Z' T → FR Ws_X7_keepEachCost Z I Z' I' → CP Z Z' → Q Z' I' L') : f_X7_keepEachCost B v0 v1 v2 v3 Z I L Q := by
  unfold f_X7_keepEachCost
  have q_I : FR Ws_X7_keepEachCost Z I Z I := FR.rf
  have cp_Z : CP Z Z := CP.rf
  have rv1 := i_rng v1
  have rv2 := i_rng v2
  have rv3 := i_rng v3
  have t33 := rw9 w_I kv0
  intro x34 ex34
  have rx34 := i_rng x34
  first | (have tx34 : x34.toInt = (I v0 9).toInt := by (rw [ex34]; exact rfl)) | (have tx34 : x34.toInt = (I v0 9).toInt := by rw [ex34])
  have t35 : (-1 : Int32).toInt = -1 := rfl
  exact ⟨(x34.toInt).toNat + 1, l_X7_keepEachCost_L9 w_I v0 v1 v2 v3 kv0 p0 p1 p2   hQ   _ (-1 : Int32) x34 Z I L w_I bd_Z q_I cp_Z   (by refine ⟨?_, ?_⟩; (omega); (first | assumption | solve_by_elim))  (by omega)⟩
def Ws_X0_firstAbove : List (Nat × Nat) := [(7, 1), (7, 2), (7, 3), (7, 4), (7, 5), (7, 8), (7, 9)]
set_option maxHeartbeats 4000000 in
set_option maxRecDepth 100000 in
theorem l_X0_firstAbove_L63 {B : Nat × Nat} {T : Nat} {Z0 : jZ} {I0 : jI} {Q : Int64 → jZ → jI → jL → Prop} (w0 : WD Z0 I0) (v0 : Nat) (v1 : Nat) (v2 : Int32) (kv0 : jk Z0 v0 0) (kv1 : jk Z0 v1 6) (u0 : Nat) (hu0 : jr Z0 v0 0 = some u0) (hQ : ∀ (r : Int64) (Z' : jZ) (I' : jI) (L' : jL), WD Z' I' → BUD B Z' T → FR Ws_X0_firstAbove Z0 I0 Z' I' → CP Z0 Z' → Q r Z' I' L') : ∀ (n : Nat) (v3 : Int32) (Z : jZ) (I : jI) (L : jL), WD Z I → BUD B Z T → FR Ws_X0_firstAbove Z0 I0 Z I → CP Z0 Z →   (0 ≤ v3.toInt ∧ v3.toInt ≤ 1048576) → 1048576 - v3.toInt < (n : Int) → f_X0_firstAbove_L63 B  Q n v0 v1 v2 v3 Z I L := by
  intro n
  induction n with
  | zero =>
    intro v3 Z I L w_I bd_Z q_I cp_Z   li  me
    exfalso
    omega
  | succ n ih =>
    intro v3 Z I L w_I bd_Z q_I cp_Z   li  me
    unfold f_X0_firstAbove_L63
    have rv3 := i_rng v3
    have rv2 := i_rng v2
    have kv0_0 := kv0
    have kv0 := (q_I.1 _ _ kv0).1
    have kv1_0 := kv1
    have kv1 := (q_I.1 _ _ kv1).1
    have hu0_1 : jr Z v0 0 = some u0 := (q_I.2.1 v0 0 0 kv0_0 (by decide) (by decide)).trans hu0
    have ku0 : jk Z u0 7 := by obtain ⟨b9, e9, k9⟩ := sh_o w_I.1 kv0 (j := 0) (k := 7) rfl; cases hu0_1.symm.trans e9; exact k9
    have cu0_9 := capN0 kv0 hu0_1
    have xq_I := q_I.1
    intro b1 eb1
    obtain rfl : u0 = b1 := Option.some.inj (hu0_1.symm.trans eb1)
    have t3 : 0 ≤ (I v1 15).toInt ∧ (I v1 15).toInt ≤ 24 := w_I.fld 6 15 kv1 (by decide)
    refine s_X7_sizeAt w_I u0 (I v1 15) ku0   (fun r4 p5 => ?_)
    obtain ⟨b6, eb6, kb6, lb6⟩ := sh_f w_I.1 ku0 (j := 1) (k := 14) (m := 25) rfl
    have t8 : 0 < r4.toInt → (0 ≤ (I v1 15).toInt ∧ (I v1 15).toInt ≤ 24 ∧ 0 ≤ (I b6 (I v1 15).toNatClampNeg).toInt ∧ (I b6 (I v1 15).toNatClampNeg).toInt + r4.toInt ≤ (I u0 3).toInt) := fun h9 => ⟨(p5.2.2 h9).1, (p5.2.2 h9).2.1, (p5.2.2 h9).2.2 _ eb6⟩
    have t9 := rw3 w_I ku0
    obtain ⟨p5_0, p5_1, p5_2⟩ := p5
    have rr4 := i_rng r4
    refine ⟨fun c10 => ?_, fun c10 => ?_⟩
    · skip
      first | (have t11 : r4.toInt ≤ v3.toInt := (i_le rfl rfl).mp c10) | (have t11 : r4.toInt ≤ v3.toInt := (i_le rfl rfl).mp c10) | skip
      exact hQ (9223372036854775807 : Int64) Z I L w_I bd_Z q_I cp_Z 
    · skip
      first | (have t12 : ¬ (r4.toInt ≤ v3.toInt) := (not_congr (i_le rfl rfl)).mp c10) | (have t12 : ¬ (r4.toInt ≤ v3.toInt) := (not_congr (i_le rfl rfl)).mp c10) | skip
      intro b13 eb13
      obtain rfl : u0 = b13 := Option.some.inj (hu0_1.symm.trans eb13)
      have t15 : 0 ≤ (I v1 15).toInt ∧ (I v1 15).toInt ≤ 24 := w_I.fld 6 15 kv1 (by decide)
      refine s_X7_keyAt w_I u0 (I v1 15) v3 ku0   (fun r16  => ?_)
      refine s_X11_costIn w_I r16    (fun r17  => ?_)
      have rr17 := i_rng r17
      refine ⟨fun c18 => ?_, fun c18 => ?_⟩
      · skip
        first | (have t19 : r17.toInt ≤ v2.toInt := (i_le rfl rfl).mp c18) | (have t19 : r17.toInt ≤ v2.toInt := (i_le rfl rfl).mp c18) | skip
        intro x20 ex20
        have rx20 := i_rng x20
        first | (have tx20 : x20.toInt = v3.toInt + (1) := by (rw [ex20]; exact (i_add rfl (show (1 : Int32).toInt = 1 from rfl) (by omega) (by omega)))) | skip
        exact ih x20 Z I L w_I bd_Z q_I cp_Z   (by omega)  (by omega)
      · skip
        first | (have t21 : ¬ (r17.toInt ≤ v2.toInt) := (not_congr (i_le rfl rfl)).mp c18) | (have t21 : ¬ (r17.toInt ≤ v2.toInt) := (not_congr (i_le rfl rfl)).mp c18) | skip
        exact hQ r16 Z I L w_I bd_Z q_I cp_Z 
set_option maxHeartbeats 4000000 in
set_option maxRecDepth 100000 in
theorem l_X0_firstAbove_L11 {B : Nat × Nat} {T : Nat} {Z0 : jZ} {I0 : jI} {Q : Int64 → jZ → jI → jL → Prop} (w0 : WD Z0 I0) (v0 : Nat) (v1 : Nat) (v2 : Int32) (kv0 : jk Z0 v0 0) (kv1 : jk Z0 v1 6) (u0 : Nat) (hu0 : jr Z0 v0 0 = some u0) (hQ : ∀ (r : Int64) (Z' : jZ) (I' : jI) (L' : jL), WD Z' I' → BUD B Z' T → FR Ws_X0_firstAbove Z0 I0 Z' I' → CP Z0 Z' → Q r Z' I' L') : ∀ (n : Nat) (v3 : Int32) (Z : jZ) (I : jI) (L : jL), WD Z I → BUD B Z T → FR Ws_X0_firstAbove Z0 I0 Z I → CP Z0 Z →   (1 ≤ v3.toInt ∧ v3.toInt ≤ 25) → 25 - v3.toInt < (n : Int) → f_X0_firstAbove_L11 B  Q n v0 v1 v2 v3 Z I L := by
  intro n
  induction n with
  | zero =>
    intro v3 Z I L w_I bd_Z q_I cp_Z   li  me
    exfalso
    omega
  | succ n ih =>
    intro v3 Z I L w_I bd_Z q_I cp_Z   li  me
    unfold f_X0_firstAbove_L11
    have rv3 := i_rng v3
    have rv2 := i_rng v2
    have kv0_0 := kv0
    have kv0 := (q_I.1 _ _ kv0).1
    have kv1_0 := kv1
    have kv1 := (q_I.1 _ _ kv1).1
    have hu0_1 : jr Z v0 0 = some u0 := (q_I.2.1 v0 0 0 kv0_0 (by decide) (by decide)).trans hu0
    have ku0 : jk Z u0 7 := by obtain ⟨b9, e9, k9⟩ := sh_o w_I.1 kv0 (j := 0) (k := 7) rfl; cases hu0_1.symm.trans e9; exact k9
    have cu0_9 := capN0 kv0 hu0_1
    have xq_I := q_I.1
    have t23 : 0 ≤ (I v1 15).toInt ∧ (I v1 15).toInt ≤ 24 := w_I.fld 6 15 kv1 (by decide)
    refine ⟨fun c24 => ?_, fun c24 => ?_⟩
    · skip
      first | (have t25 : (I v1 15).toInt < v3.toInt := (i_lt rfl rfl).mp c24) | (have t25 : (I v1 15).toInt < v3.toInt := (i_lt rfl rfl).mp c24) | skip
      have t26 : (0 : Int32).toInt = 0 := rfl
      exact ⟨(1048576 - (0 : Int32).toInt).toNat + 1, l_X0_firstAbove_L63 w0 v0 v1 v2 kv0_0 kv1_0 u0 hu0   hQ   _ (0 : Int32) Z I L w_I bd_Z q_I cp_Z   (by omega)  (by omega)⟩
    · skip
      first | (have t27 : ¬ ((I v1 15).toInt < v3.toInt) := (not_congr (i_lt rfl rfl)).mp c24) | (have t27 : ¬ ((I v1 15).toInt < v3.toInt) := (not_congr (i_lt rfl rfl)).mp c24) | skip
      intro b28 eb28
      obtain rfl : u0 = b28 := Option.some.inj (hu0_1.symm.trans eb28)
      have t29 : (-1 : Int32).toInt = -1 := rfl
      refine s_X6_feed w_I v1 u0 v3 (-536870912 : Int64) (-1 : Int32) kv1 ku0  (by omega) (fun  I31 L32 w_I31 f_I31 p30 => ?_)
      have q_I31 : FR Ws_X0_firstAbove Z0 I0 Z I31 := q_I.trans w0.1 w0.2.1 (f_I31.mono (by decide))
      have u33 : (I31 v1 15).toInt = (I v1 15).toInt := by rw [f_I31.2.2.1 v1 6 15 kv1 (by decide) (by decide)]
      obtain ⟨p30_0, p30_1, p30_2⟩ := p30
      intro b34 eb34
      obtain rfl : u0 = b34 := Option.some.inj (hu0_1.symm.trans eb34)
      intro b35 eb35
      obtain ⟨x36, ex36, kb35, lb35⟩ := sh_f w_I31.1 kv1 (j := 7) (k := 14) (m := 25) rfl
      cases eb35.symm.trans ex36
      have o37 : vp_in v3 25 := vi_of rfl (by omega) (by omega)
      refine ⟨o37, ?_⟩
      try (have t38 : ((I31 v1 1) - (I31 b35 v3.toNatClampNeg)).toInt = ((I31 v1 1).toInt - (I31 b35 v3.toNatClampNeg).toInt) := (i_sub rfl rfl (by omega) (by omega)))
      refine s_X7_keepEachCost w_I31 bd_Z u0 v3 ((I31 v1 1) - (I31 b35 v3.toNatClampNeg)) (I31 v1 2) ku0  (by omega) (by first | assumption | solve_by_elim | (simp only [*]; assumption)) (by omega) (fun  Z41 I39 L40 w_I39 bd_Z41 f_I39 c_Z41  => ?_)
      have q_I39 : FR Ws_X0_firstAbove Z0 I0 Z41 I39 := q_I31.trans w0.1 w0.2.1 (f_I39.mono (by decide))
      have cp_Z41 : CP Z0 Z41 := cp_Z.trans q_I31.1 c_Z41
      have x_Z41 := f_I39.1
      have k42 := (f_I39.1 _ _ kv0).1
      have k43 := (f_I39.1 _ _ kv1).1
      have k44 := (f_I39.1 _ _ ku0).1
      have k45 := (f_I39.1 _ _ kv0).1
      have e46 := (f_I39.2.1 v0 0 0 kv0 (by decide) (by decide)).trans hu0_1
      have k47 := (f_I39.1 _ _ kb35).1
      have l48 := (f_I39.1 _ _ kb35).2.trans lb35
      have k49 := (f_I39.1 _ _ kv1).1
      have e50 := (f_I39.2.1 v1 6 7 kv1 (by decide) (by decide)).trans eb35
      have u51 : (I39 v1 15).toInt = (I31 v1 15).toInt := by rw [f_I39.2.2.1 v1 6 15 kv1 (by decide) (by decide)]
      have u52 : (I39 v1 1).toInt = (I31 v1 1).toInt := by rw [f_I39.2.2.1 v1 6 1 kv1 (by decide) (by decide)]
      have u53 : (I39 v1 2).toInt = (I31 v1 2).toInt := by rw [f_I39.2.2.1 v1 6 2 kv1 (by decide) (by decide)]
      intro x54 ex54
      have rx54 := i_rng x54
      first | (have tx54 : x54.toInt = v3.toInt + (1) := by (rw [ex54]; exact (i_add rfl (show (1 : Int32).toInt = 1 from rfl) (by omega) (by omega)))) | skip
      exact ih x54 Z41 I39 L40 w_I39 bd_Z41 q_I39 cp_Z41   (by omega)  (by omega)
set_option maxHeartbeats 4000000 in
set_option maxRecDepth 100000 in
theorem s_X0_firstAbove {B : Nat × Nat} {T : Nat} {Z : jZ} {I : jI} {L : jL} (w_I : WD Z I) (bd_Z : BUD B Z T) (v0 : Nat) (v1 : Nat) (v2 : Int32) (kv0 : jk Z v0 0) (kv1 : jk Z v1 6) (u0 : Nat) (hu0 : jr Z v0 0 = some u0) {Q : Int64 → jZ → jI → jL → Prop} (hQ : ∀ (r : Int64) (Z' : jZ) (I' : jI) (L' : jL), WD Z' I' → BUD B Z' T → FR Ws_X0_firstAbove Z I Z' I' → CP Z Z' → Q r Z' I' L') : f_X0_firstAbove B v0 v1 v2 Z I L Q := by
  unfold f_X0_firstAbove
  have q_I : FR Ws_X0_firstAbove Z I Z I := FR.rf
  have cp_Z : CP Z Z := CP.rf
  have rv2 := i_rng v2
  have ku0 : jk Z u0 7 := by obtain ⟨b9, e9, k9⟩ := sh_o w_I.1 kv0 (j := 0) (k := 7) rfl; cases hu0.symm.trans e9; exact k9
  have cu0_9 := capN0 kv0 hu0
  intro b55 eb55
  obtain rfl : u0 = b55 := Option.some.inj (hu0.symm.trans eb55)
  have t56 : (0 : Int32).toInt = 0 := rfl
  refine s_X7_begin w_I bd_Z u0 (0 : Int32) (0 : Int64) ku0  (by omega) (fun  Z60 I58 L59 w_I58 bd_Z60 f_I58 c_Z60 p57 => ?_)
  have q_I58 : FR Ws_X0_firstAbove Z I Z60 I58 := q_I.trans w_I.1 w_I.2.1 (f_I58.mono (by decide))
  have cp_Z60 : CP Z Z60 := cp_Z.trans q_I.1 c_Z60
  have x_Z60 := f_I58.1
  have k61 := (f_I58.1 _ _ kv0).1
  have k62 := (f_I58.1 _ _ kv1).1
  have k63 := (f_I58.1 _ _ ku0).1
  have k64 := (f_I58.1 _ _ kv0).1
  have e65 := (f_I58.2.1 v0 0 0 kv0 (by decide) (by decide)).trans hu0
  obtain ⟨p57_0, p57_1⟩ := p57
  have t66 : (1 : Int32).toInt = 1 := rfl
  exact ⟨(25 - (1 : Int32).toInt).toNat + 1, l_X0_firstAbove_L11 w_I v0 v1 v2 kv0 kv1 u0 hu0   hQ   _ (1 : Int32) Z60 I58 L59 w_I58 bd_Z60 q_I58 cp_Z60   (by omega)  (by omega)⟩
def Ws_X7_pushSummed : List (Nat × Nat) := [(7, 1), (7, 2), (7, 3), (7, 4), (7, 5), (7, 8), (7, 9)]
set_option maxHeartbeats 4000000 in
set_option maxRecDepth 100000 in
theorem s_X7_pushSummed {B : Nat × Nat} {T : Nat} {Z : jZ} {I : jI} {L : jL} (w_I : WD Z I) (bd_Z : BUD B Z T) (v0 : Nat) (v1 : Int32) (v2 : Int64) (kv0 : jk Z v0 7) (p0 : 0 ≤ v1.toInt ∧ v1.toInt ≤ 24) (p1 : FI Z I v0 v1.toNatClampNeg) (p2 : capN Z v0 = 1048576 ∨ (I v0 3).toInt ≤ 98304) {Q : jZ → jI → jL → Prop} (hQ : ∀  (Z' : jZ) (I' : jI) (L' : jL), WD Z' I' → BUD B Z' T → FR Ws_X7_pushSummed Z I Z' I' → CP Z Z' → (FI Z' I' v0 v1.toNatClampNeg) → Q Z' I' L') : f_X7_pushSummed B v0 v1 v2 Z I L Q := by
  unfold f_X7_pushSummed
  have q_I : FR Ws_X7_pushSummed Z I Z I := FR.rf
  have cp_Z : CP Z Z := CP.rf
  have rv1 := i_rng v1
  refine s_X7_sizeAt w_I v0 v1 kv0   (fun r1 p2 => ?_)
  obtain ⟨b3, eb3, kb3, lb3⟩ := sh_f w_I.1 kv0 (j := 1) (k := 14) (m := 25) rfl
  have t5 : 0 < r1.toInt → (0 ≤ v1.toInt ∧ v1.toInt ≤ 24 ∧ 0 ≤ (I b3 v1.toNatClampNeg).toInt ∧ (I b3 v1.toNatClampNeg).toInt + r1.toInt ≤ (I v0 3).toInt) := fun h9 => ⟨(p2.2.2 h9).1, (p2.2.2 h9).2.1, (p2.2.2 h9).2.2 _ eb3⟩
  have t6 := rw3 w_I kv0
  obtain ⟨p2_0, p2_1, p2_2⟩ := p2
  have rr1 := i_rng r1
  refine ⟨fun c7 => ?_, fun c7 => ?_⟩
  · skip
    first | (have t8 : r1.toInt ≤ (0) := (i_le rfl (show (0 : Int32).toInt = 0 from rfl)).mp c7) | (have t8 : r1.toInt ≤ (0 : Int32).toInt := (i_le rfl rfl).mp c7) | skip
    unfold f_X7_pushSummed_b58
    refine s_X7_push w_I bd_Z v0 v1 v2 kv0  (by omega) (by first | assumption | solve_by_elim | (simp only [*]; assumption)) (by omega) (fun  Z12 I10 L11 w_I10 bd_Z12 f_I10 c_Z12 p9 => ?_)
    have q_I10 : FR Ws_X7_pushSummed Z I Z12 I10 := q_I.trans w_I.1 w_I.2.1 (f_I10.mono (by decide))
    have cp_Z12 : CP Z Z12 := cp_Z.trans q_I.1 c_Z12
    have x_Z12 := f_I10.1
    have k13 := (f_I10.1 _ _ kv0).1
    have k14 := (f_I10.1 _ _ kb3).1
    have l15 := (f_I10.1 _ _ kb3).2.trans lb3
    have k16 := (f_I10.1 _ _ kv0).1
    have e17 := (f_I10.2.1 v0 7 1 kv0 (by decide) (by decide)).trans eb3
    obtain ⟨p9_0, p9_1, p9_2, p9_3⟩ := p9
    exact hQ  Z12 I10 L11 w_I10 bd_Z12 q_I10 cp_Z12 (by assumption)
  · skip
    first | (have t18 : ¬ (r1.toInt ≤ (0)) := (not_congr (i_le rfl (show (0 : Int32).toInt = 0 from rfl))).mp c7) | (have t18 : ¬ (r1.toInt ≤ (0 : Int32).toInt) := (not_congr (i_le rfl rfl)).mp c7) | skip
    intro b19 eb19
    obtain ⟨x20, ex20, kb19⟩ := sh_o w_I.1 kv0 (j := 0) (k := 15) rfl
    cases eb19.symm.trans ex20
    have t21 := rw0 w_I kv0 eb19
    have t22 := rw3 w_I kv0
    have o23 : vp_in ((I v0 3) - (1 : Int32)) (jlen Z b19) := vi_of (i_sub rfl (show (1 : Int32).toInt = 1 from rfl) (by omega) (by omega)) (by omega) (by omega)
    refine ⟨o23, ?_⟩
    refine ⟨fun c24 => ?_, fun c24 => ?_⟩
    · skip
      first | (have t25 : ¬ ((lg_cmp ((L b19 ((I v0 3) - (1 : Int32)).toNatClampNeg) &&& (-536870912 : Int64)) (v2 &&& (-536870912 : Int64))).toInt = (0)) := (not_congr (i_eq rfl (show (0 : Int32).toInt = 0 from rfl))).mp c24) | (have t25 : ¬ ((lg_cmp ((L b19 ((I v0 3) - (1 : Int32)).toNatClampNeg) &&& (-536870912 : Int64)) (v2 &&& (-536870912 : Int64))).toInt = (0 : Int32).toInt) := (not_congr (i_eq rfl rfl)).mp c24) | skip
      unfold f_X7_pushSummed_b58
      refine s_X7_push w_I bd_Z v0 v1 v2 kv0  (by omega) (by first | assumption | solve_by_elim | (simp only [*]; assumption)) (by omega) (fun  Z29 I27 L28 w_I27 bd_Z29 f_I27 c_Z29 p26 => ?_)
      have q_I27 : FR Ws_X7_pushSummed Z I Z29 I27 := q_I.trans w_I.1 w_I.2.1 (f_I27.mono (by decide))
      have cp_Z29 : CP Z Z29 := cp_Z.trans q_I.1 c_Z29
      have x_Z29 := f_I27.1
      have k30 := (f_I27.1 _ _ kv0).1
      have k31 := (f_I27.1 _ _ kb3).1
      have l32 := (f_I27.1 _ _ kb3).2.trans lb3
      have k33 := (f_I27.1 _ _ kv0).1
      have e34 := (f_I27.2.1 v0 7 1 kv0 (by decide) (by decide)).trans eb3
      have k35 := (f_I27.1 _ _ kb19).1
      have l36 := (f_I27.1 _ _ kb19).2
      obtain ⟨p26_0, p26_1, p26_2, p26_3⟩ := p26
      exact hQ  Z29 I27 L28 w_I27 bd_Z29 q_I27 cp_Z29 (by assumption)
    · skip
      first | (have t37 : (lg_cmp ((L b19 ((I v0 3) - (1 : Int32)).toNatClampNeg) &&& (-536870912 : Int64)) (v2 &&& (-536870912 : Int64))).toInt = (0) := (i_eq rfl (show (0 : Int32).toInt = 0 from rfl)).mp c24) | (have t37 : (lg_cmp ((L b19 ((I v0 3) - (1 : Int32)).toNatClampNeg) &&& (-536870912 : Int64)) (v2 &&& (-536870912 : Int64))).toInt = (0 : Int32).toInt := (i_eq rfl rfl).mp c24) | skip
      intro b38 eb38
      obtain rfl : b19 = b38 := Option.some.inj (eb19.symm.trans eb38)
      have t39 := rw3 w_I kv0
      have o40 : vp_in ((I v0 3) - (1 : Int32)) (jlen Z b19) := vi_of (i_sub rfl (show (1 : Int32).toInt = 1 from rfl) (by omega) (by omega)) (by omega) (by omega)
      refine ⟨o40, ?_⟩
      have o41 : vp_in ((I v0 3) - (1 : Int32)) (jlen Z b19) := vi_of (i_sub rfl (show (1 : Int32).toInt = 1 from rfl) (by omega) (by omega)) (by omega) (by omega)
      refine ⟨o41, ?_⟩
      intro L42 eL42
      exact hQ  Z I L42 w_I bd_Z q_I cp_Z (by assumption)
def Ws_X0_keepOnTheWay : List (Nat × Nat) := [(7, 1), (7, 2), (7, 3), (7, 4), (7, 5), (7, 8), (7, 9)]
set_option maxHeartbeats 4000000 in
set_option maxRecDepth 100000 in
theorem l_X0_keepOnTheWay_L9 {B : Nat × Nat} {T : Nat} {Z0 : jZ} {I0 : jI} {Q : jZ → jI → jL → Prop} (w0 : WD Z0 I0) (v0 : Nat) (v1 : Int32) (v2 : Int32) (v3 : Int32) (kv0 : jk Z0 v0 0) (u0 : Nat) (hu0 : jr Z0 v0 0 = some u0) (p0 : 0 ≤ v1.toInt ∧ v1.toInt ≤ 24) (p1 : FI Z0 I0 u0 v1.toNatClampNeg) (hQ : ∀  (Z' : jZ) (I' : jI) (L' : jL), WD Z' I' → BUD B Z' T → FR Ws_X0_keepOnTheWay Z0 I0 Z' I' → CP Z0 Z' → Q Z' I' L') : ∀ (n : Nat) (v4 : Int32) (Z : jZ) (I : jI) (L : jL), WD Z I → BUD B Z T → FR Ws_X0_keepOnTheWay Z0 I0 Z I → CP Z0 Z →   ((0 ≤ v4.toInt) ∧ FI Z I u0 v1.toNatClampNeg) → v4.toInt < (n : Int) → f_X0_keepOnTheWay_L9 B  Q n v0 v1 v2 v3 v4 Z I L := by
  intro n
  induction n with
  | zero =>
    intro v4 Z I L w_I bd_Z q_I cp_Z   li  me
    exfalso
    omega
  | succ n ih =>
    intro v4 Z I L w_I bd_Z q_I cp_Z   li  me
    unfold f_X0_keepOnTheWay_L9
    have rv4 := i_rng v4
    have rv1 := i_rng v1
    have rv2 := i_rng v2
    have rv3 := i_rng v3
    obtain ⟨li0, li1⟩ := li
    have kv0_0 := kv0
    have kv0 := (q_I.1 _ _ kv0).1
    have cp0 := capN0 kv0 ((q_I.2.1 v0 0 0 kv0_0 (by decide) (by decide)).trans hu0)
    have hu0_1 : jr Z v0 0 = some u0 := (q_I.2.1 v0 0 0 kv0_0 (by decide) (by decide)).trans hu0
    have ku0 : jk Z u0 7 := by obtain ⟨b9, e9, k9⟩ := sh_o w_I.1 kv0 (j := 0) (k := 7) rfl; cases hu0_1.symm.trans e9; exact k9
    have cu0_9 := capN0 kv0 hu0_1
    have xq_I := q_I.1
    refine ⟨fun c1 => ?_, fun c1 => ?_⟩
    · skip
      first | (have t2 : v4.toInt ≤ (0) := (i_le rfl (show (0 : Int32).toInt = 0 from rfl)).mp c1) | (have t2 : v4.toInt ≤ (0 : Int32).toInt := (i_le rfl rfl).mp c1) | skip
      exact hQ  Z I L w_I bd_Z q_I cp_Z 
    · skip
      first | (have t3 : ¬ (v4.toInt ≤ (0)) := (not_congr (i_le rfl (show (0 : Int32).toInt = 0 from rfl))).mp c1) | (have t3 : ¬ (v4.toInt ≤ (0 : Int32).toInt) := (not_congr (i_le rfl rfl)).mp c1) | skip
      refine ⟨fun c4 => ?_, fun c4 => ?_⟩
      · skip
        first | (have t5 : v2.toInt < (0) := (i_lt rfl (show (0 : Int32).toInt = 0 from rfl)).mp c4) | (have t5 : v2.toInt < (0 : Int32).toInt := (i_lt rfl rfl).mp c4) | skip
        exact hQ  Z I L w_I bd_Z q_I cp_Z 
      · skip
        first | (have t6 : ¬ (v2.toInt < (0)) := (not_congr (i_lt rfl (show (0 : Int32).toInt = 0 from rfl))).mp c4) | (have t6 : ¬ (v2.toInt < (0 : Int32).toInt) := (not_congr (i_lt rfl rfl)).mp c4) | skip
        intro b7 eb7
        obtain rfl : u0 = b7 := Option.some.inj (hu0_1.symm.trans eb7)
        refine s_X7_take w_I u0 ku0   (fun r8 I10 L11 w_I10 f_I10 p9 => ?_)
        have q_I10 : FR Ws_X0_keepOnTheWay Z0 I0 Z I10 := q_I.trans w0.1 w0.2.1 (f_I10.mono (by decide))
        obtain ⟨p9_0, p9_1, p9_2⟩ := p9
        refine s_X11_costIn w_I10 r8    (fun r12  => ?_)
        have rr12 := i_rng r12
        intro x13 ex13
        have rx13 := i_rng x13
        first | (have tx13 : x13.toInt = (v3.toInt - r12.toInt) := by (rw [ex13]; exact (i_sub rfl rfl (by omega) (by omega)))) | (have tx13 : x13.toInt = (v3 - r12).toInt := by rw [ex13])
        refine ⟨fun c14 => ?_, fun c14 => ?_⟩
        · skip
          first | (have t15 : (0) ≤ x13.toInt := (i_le (show (0 : Int32).toInt = 0 from rfl) rfl).mp c14) | (have t15 : (0 : Int32).toInt ≤ x13.toInt := (i_le rfl rfl).mp c14) | skip
          refine s_X11_effortIn w_I10 r8    (fun r16 p17 => ?_)
          have rr16 := i_rng r16
          refine ⟨fun c18 => ?_, fun c18 => ?_⟩
          · skip
            first | (have t19 : v2.toInt < r16.toInt := (i_lt rfl rfl).mp c18) | (have t19 : v2.toInt < r16.toInt := (i_lt rfl rfl).mp c18) | skip
            unfold f_X0_keepOnTheWay_b71
            intro x20 ex20
            have rx20 := i_rng x20
            first | (have tx20 : x20.toInt = v4.toInt + (-1) := by (rw [ex20]; exact (i_add rfl (show (-1 : Int32).toInt = -1 from rfl) (by omega) (by omega)))) | skip
            exact ih x20 Z I10 L11 w_I10 bd_Z q_I10 cp_Z   (by refine ⟨?_, ?_⟩; (omega); (first | assumption | solve_by_elim))  (by omega)
          · skip
            first | (have t21 : ¬ (v2.toInt < r16.toInt) := (not_congr (i_lt rfl rfl)).mp c18) | (have t21 : ¬ (v2.toInt < r16.toInt) := (not_congr (i_lt rfl rfl)).mp c18) | skip
            refine s_X0_isInReach w_I10 v0 v1 x13 kv0  (by omega) (fun r22  => ?_)
            have rr22 := i_rng r22
            refine ⟨fun c23 => ?_, fun c23 => ?_⟩
            · skip
              first | (have t24 : r22.toInt = (0) := (i_eq rfl (show (0 : Int32).toInt = 0 from rfl)).mp c23) | (have t24 : r22.toInt = (0 : Int32).toInt := (i_eq rfl rfl).mp c23) | skip
              unfold f_X0_keepOnTheWay_b71
              intro x25 ex25
              have rx25 := i_rng x25
              first | (have tx25 : x25.toInt = v4.toInt + (-1) := by (rw [ex25]; exact (i_add rfl (show (-1 : Int32).toInt = -1 from rfl) (by omega) (by omega)))) | skip
              exact ih x25 Z I10 L11 w_I10 bd_Z q_I10 cp_Z   (by refine ⟨?_, ?_⟩; (omega); (first | assumption | solve_by_elim))  (by omega)
            · skip
              first | (have t26 : ¬ (r22.toInt = (0)) := (not_congr (i_eq rfl (show (0 : Int32).toInt = 0 from rfl))).mp c23) | (have t26 : ¬ (r22.toInt = (0 : Int32).toInt) := (not_congr (i_eq rfl rfl)).mp c23) | skip
              intro b27 eb27
              obtain rfl : u0 = b27 := Option.some.inj (hu0_1.symm.trans eb27)
              refine s_X7_pushSummed w_I10 bd_Z u0 v1 r8 ku0  (by omega) (by first | assumption | solve_by_elim | (simp only [*]; assumption)) (by omega) (fun  Z31 I29 L30 w_I29 bd_Z31 f_I29 c_Z31 p28 => ?_)
              have q_I29 : FR Ws_X0_keepOnTheWay Z0 I0 Z31 I29 := q_I10.trans w0.1 w0.2.1 (f_I29.mono (by decide))
              have cp_Z31 : CP Z0 Z31 := cp_Z.trans q_I10.1 c_Z31
              have x_Z31 := f_I29.1
              have k32 := (f_I29.1 _ _ kv0).1
              have k33 := (f_I29.1 _ _ ku0).1
              have k34 := (f_I29.1 _ _ kv0).1
              have e35 := (f_I29.2.1 v0 0 0 kv0 (by decide) (by decide)).trans hu0_1
              unfold f_X0_keepOnTheWay_b71
              intro x36 ex36
              have rx36 := i_rng x36
              first | (have tx36 : x36.toInt = v4.toInt + (-1) := by (rw [ex36]; exact (i_add rfl (show (-1 : Int32).toInt = -1 from rfl) (by omega) (by omega)))) | skip
              exact ih x36 Z31 I29 L30 w_I29 bd_Z31 q_I29 cp_Z31   (by refine ⟨?_, ?_⟩; (omega); (first | assumption | solve_by_elim))  (by omega)
        · skip
          first | (have t37 : ¬ ((0) ≤ x13.toInt) := (not_congr (i_le (show (0 : Int32).toInt = 0 from rfl) rfl)).mp c14) | (have t37 : ¬ ((0 : Int32).toInt ≤ x13.toInt) := (not_congr (i_le rfl rfl)).mp c14) | skip
          exact hQ  Z I10 L11 w_I10 bd_Z q_I10 cp_Z 
set_option maxHeartbeats 4000000 in
set_option maxRecDepth 100000 in
theorem s_X0_keepOnTheWay {B : Nat × Nat} {T : Nat} {Z : jZ} {I : jI} {L : jL} (w_I : WD Z I) (bd_Z : BUD B Z T) (v0 : Nat) (v1 : Int32) (v2 : Int32) (v3 : Int32) (kv0 : jk Z v0 0) (u0 : Nat) (hu0 : jr Z v0 0 = some u0) (p0 : 0 ≤ v1.toInt ∧ v1.toInt ≤ 24) (p1 : FI Z I u0 v1.toNatClampNeg) {Q : jZ → jI → jL → Prop} (hQ : ∀  (Z' : jZ) (I' : jI) (L' : jL), WD Z' I' → BUD B Z' T → FR Ws_X0_keepOnTheWay Z I Z' I' → CP Z Z' → Q Z' I' L') : f_X0_keepOnTheWay B v0 v1 v2 v3 Z I L Q := by
  unfold f_X0_keepOnTheWay
  have q_I : FR Ws_X0_keepOnTheWay Z I Z I := FR.rf
  have cp_Z : CP Z Z := CP.rf
  have rv1 := i_rng v1
  have rv2 := i_rng v2
  have rv3 := i_rng v3
  have ku0 : jk Z u0 7 := by obtain ⟨b9, e9, k9⟩ := sh_o w_I.1 kv0 (j := 0) (k := 7) rfl; cases hu0.symm.trans e9; exact k9
  have cu0_9 := capN0 kv0 hu0
  intro b38 eb38
  obtain rfl : u0 = b38 := Option.some.inj (hu0.symm.trans eb38)
  have t39 := rw9 w_I ku0
  intro x40 ex40
  have rx40 := i_rng x40
  first | (have tx40 : x40.toInt = (I u0 9).toInt := by (rw [ex40]; exact rfl)) | (have tx40 : x40.toInt = (I u0 9).toInt := by rw [ex40])
  exact ⟨(x40.toInt).toNat + 1, l_X0_keepOnTheWay_L9 w_I v0 v1 v2 v3 kv0 u0 hu0 p0 p1   hQ   _ x40 Z I L w_I bd_Z q_I cp_Z   (by refine ⟨?_, ?_⟩; (omega); (first | assumption | solve_by_elim))  (by omega)⟩
def Ws_X0_tally : List (Nat × Nat) := [(7, 1), (7, 2), (7, 3), (7, 4), (7, 5), (7, 8), (7, 9)]
set_option maxHeartbeats 4000000 in
set_option maxRecDepth 100000 in
theorem l_X0_tally_L106 {B : Nat × Nat} {T : Nat} {Z0 : jZ} {I0 : jI} {Q : Int64 → jZ → jI → jL → Prop} (w0 : WD Z0 I0) (v0 : Nat) (v1 : Nat) (v2 : Int32) (v3 : Int32) (kv0 : jk Z0 v0 0) (kv1 : jk Z0 v1 6) (u0 : Nat) (hu0 : jr Z0 v0 0 = some u0) (hQ : ∀ (r : Int64) (Z' : jZ) (I' : jI) (L' : jL), WD Z' I' → BUD B Z' T → FR Ws_X0_tally Z0 I0 Z' I' → CP Z0 Z' → Q r Z' I' L') : ∀ (n : Nat) (v4 : Int64) (v6 : Int32) (Z : jZ) (I : jI) (L : jL), WD Z I → BUD B Z T → FR Ws_X0_tally Z0 I0 Z I → CP Z0 Z →   (0 ≤ v6.toInt ∧ v6.toInt ≤ 1048576) → 1048576 - v6.toInt < (n : Int) → f_X0_tally_L106 B  Q n v0 v1 v4 v6 Z I L := by
  intro n
  induction n with
  | zero =>
    intro v4 v6 Z I L w_I bd_Z q_I cp_Z   li  me
    exfalso
    omega
  | succ n ih =>
    intro v4 v6 Z I L w_I bd_Z q_I cp_Z   li  me
    unfold f_X0_tally_L106
    have rv6 := i_rng v6
    have rv2 := i_rng v2
    have rv3 := i_rng v3
    have kv0_0 := kv0
    have kv0 := (q_I.1 _ _ kv0).1
    have kv1_0 := kv1
    have kv1 := (q_I.1 _ _ kv1).1
    have hu0_1 : jr Z v0 0 = some u0 := (q_I.2.1 v0 0 0 kv0_0 (by decide) (by decide)).trans hu0
    have ku0 : jk Z u0 7 := by obtain ⟨b9, e9, k9⟩ := sh_o w_I.1 kv0 (j := 0) (k := 7) rfl; cases hu0_1.symm.trans e9; exact k9
    have cu0_9 := capN0 kv0 hu0_1
    have xq_I := q_I.1
    intro b1 eb1
    obtain rfl : u0 = b1 := Option.some.inj (hu0_1.symm.trans eb1)
    have t3 : 0 ≤ (I v1 15).toInt ∧ (I v1 15).toInt ≤ 24 := w_I.fld 6 15 kv1 (by decide)
    refine s_X7_sizeAt w_I u0 (I v1 15) ku0   (fun r4 p5 => ?_)
    obtain ⟨b6, eb6, kb6, lb6⟩ := sh_f w_I.1 ku0 (j := 1) (k := 14) (m := 25) rfl
    have t8 : 0 < r4.toInt → (0 ≤ (I v1 15).toInt ∧ (I v1 15).toInt ≤ 24 ∧ 0 ≤ (I b6 (I v1 15).toNatClampNeg).toInt ∧ (I b6 (I v1 15).toNatClampNeg).toInt + r4.toInt ≤ (I u0 3).toInt) := fun h9 => ⟨(p5.2.2 h9).1, (p5.2.2 h9).2.1, (p5.2.2 h9).2.2 _ eb6⟩
    have t9 := rw3 w_I ku0
    obtain ⟨p5_0, p5_1, p5_2⟩ := p5
    have rr4 := i_rng r4
    refine ⟨fun c10 => ?_, fun c10 => ?_⟩
    · skip
      first | (have t11 : r4.toInt ≤ v6.toInt := (i_le rfl rfl).mp c10) | (have t11 : r4.toInt ≤ v6.toInt := (i_le rfl rfl).mp c10) | skip
      exact hQ v4 Z I L w_I bd_Z q_I cp_Z 
    · skip
      first | (have t12 : ¬ (r4.toInt ≤ v6.toInt) := (not_congr (i_le rfl rfl)).mp c10) | (have t12 : ¬ (r4.toInt ≤ v6.toInt) := (not_congr (i_le rfl rfl)).mp c10) | skip
      intro b13 eb13
      obtain rfl : u0 = b13 := Option.some.inj (hu0_1.symm.trans eb13)
      have t15 : 0 ≤ (I v1 15).toInt ∧ (I v1 15).toInt ≤ 24 := w_I.fld 6 15 kv1 (by decide)
      refine s_X7_keyAt w_I u0 (I v1 15) v6 ku0   (fun r16  => ?_)
      intro x17 ex17
      intro x18 ex18
      refine ⟨fun c19 => ?_, fun c19 => ?_⟩
      · skip
        first | (have t20 : ¬ (v6.toInt = (0)) := (not_congr (i_eq rfl (show (0 : Int32).toInt = 0 from rfl))).mp c19) | (have t20 : ¬ (v6.toInt = (0 : Int32).toInt) := (not_congr (i_eq rfl rfl)).mp c19) | skip
        unfold f_X0_tally_b163
        intro L21 eL21
        intro x22 ex22
        have rx22 := i_rng x22
        first | (have tx22 : x22.toInt = v6.toInt + (1) := by (rw [ex22]; exact (i_add rfl (show (1 : Int32).toInt = 1 from rfl) (by omega) (by omega)))) | skip
        exact ih x18 x22 Z I L21 w_I bd_Z q_I cp_Z   (by omega)  (by omega)
      · skip
        first | (have t23 : v6.toInt = (0) := (i_eq rfl (show (0 : Int32).toInt = 0 from rfl)).mp c19) | (have t23 : v6.toInt = (0 : Int32).toInt := (i_eq rfl rfl).mp c19) | skip
        unfold f_X0_tally_b163
        intro L24 eL24
        intro x25 ex25
        have rx25 := i_rng x25
        first | (have tx25 : x25.toInt = v6.toInt + (1) := by (rw [ex25]; exact (i_add rfl (show (1 : Int32).toInt = 1 from rfl) (by omega) (by omega)))) | skip
        exact ih x18 x25 Z I L24 w_I bd_Z q_I cp_Z   (by omega)  (by omega)
set_option maxHeartbeats 4000000 in
set_option maxRecDepth 100000 in
theorem l_X0_tally_L52 {B : Nat × Nat} {T : Nat} {Z0 : jZ} {I0 : jI} {Q : Int64 → jZ → jI → jL → Prop} (w0 : WD Z0 I0) (v0 : Nat) (v1 : Nat) (v2 : Int32) (v3 : Int32) (kv0 : jk Z0 v0 0) (kv1 : jk Z0 v1 6) (u0 : Nat) (hu0 : jr Z0 v0 0 = some u0) (hQ : ∀ (r : Int64) (Z' : jZ) (I' : jI) (L' : jL), WD Z' I' → BUD B Z' T → FR Ws_X0_tally Z0 I0 Z' I' → CP Z0 Z' → Q r Z' I' L') : ∀ (n : Nat) (v4 : Int32) (Z : jZ) (I : jI) (L : jL), WD Z I → BUD B Z T → FR Ws_X0_tally Z0 I0 Z I → CP Z0 Z →   (1 ≤ v4.toInt ∧ v4.toInt ≤ 25) → 25 - v4.toInt < (n : Int) → f_X0_tally_L52 B  Q n v0 v1 v2 v3 v4 Z I L := by
  intro n
  induction n with
  | zero =>
    intro v4 Z I L w_I bd_Z q_I cp_Z   li  me
    exfalso
    omega
  | succ n ih =>
    intro v4 Z I L w_I bd_Z q_I cp_Z   li  me
    unfold f_X0_tally_L52
    have rv4 := i_rng v4
    have rv2 := i_rng v2
    have rv3 := i_rng v3
    have kv0_0 := kv0
    have kv0 := (q_I.1 _ _ kv0).1
    have kv1_0 := kv1
    have kv1 := (q_I.1 _ _ kv1).1
    have hu0_1 : jr Z v0 0 = some u0 := (q_I.2.1 v0 0 0 kv0_0 (by decide) (by decide)).trans hu0
    have ku0 : jk Z u0 7 := by obtain ⟨b9, e9, k9⟩ := sh_o w_I.1 kv0 (j := 0) (k := 7) rfl; cases hu0_1.symm.trans e9; exact k9
    have cu0_9 := capN0 kv0 hu0_1
    have xq_I := q_I.1
    have t27 : 0 ≤ (I v1 15).toInt ∧ (I v1 15).toInt ≤ 24 := w_I.fld 6 15 kv1 (by decide)
    refine ⟨fun c28 => ?_, fun c28 => ?_⟩
    · skip
      first | (have t29 : (I v1 15).toInt < v4.toInt := (i_lt rfl rfl).mp c28) | (have t29 : (I v1 15).toInt < v4.toInt := (i_lt rfl rfl).mp c28) | skip
      have t30 : (0 : Int32).toInt = 0 := rfl
      exact ⟨(1048576 - (0 : Int32).toInt).toNat + 1, l_X0_tally_L106 w0 v0 v1 v2 v3 kv0_0 kv1_0 u0 hu0   hQ   _ (0 : Int64) (0 : Int32) Z I L w_I bd_Z q_I cp_Z   (by omega)  (by omega)⟩
    · skip
      first | (have t31 : ¬ ((I v1 15).toInt < v4.toInt) := (not_congr (i_lt rfl rfl)).mp c28) | (have t31 : ¬ ((I v1 15).toInt < v4.toInt) := (not_congr (i_lt rfl rfl)).mp c28) | skip
      intro b32 eb32
      obtain rfl : u0 = b32 := Option.some.inj (hu0_1.symm.trans eb32)
      refine s_X6_feed w_I v1 u0 v4 (-536870912 : Int64) v3 kv1 ku0  (by omega) (fun  I34 L35 w_I34 f_I34 p33 => ?_)
      have q_I34 : FR Ws_X0_tally Z0 I0 Z I34 := q_I.trans w0.1 w0.2.1 (f_I34.mono (by decide))
      have u36 : (I34 v1 15).toInt = (I v1 15).toInt := by rw [f_I34.2.2.1 v1 6 15 kv1 (by decide) (by decide)]
      obtain ⟨p33_0, p33_1, p33_2⟩ := p33
      intro b37 eb37
      obtain ⟨x38, ex38, kb37, lb37⟩ := sh_f w_I34.1 kv1 (j := 7) (k := 14) (m := 25) rfl
      cases eb37.symm.trans ex38
      have o39 : vp_in v4 25 := vi_of rfl (by omega) (by omega)
      refine ⟨o39, ?_⟩
      try (have t40 : ((I34 v1 1) - (I34 b37 v4.toNatClampNeg)).toInt = ((I34 v1 1).toInt - (I34 b37 v4.toNatClampNeg).toInt) := (i_sub rfl rfl (by omega) (by omega)))
      refine s_X0_keepOnTheWay w_I34 bd_Z v0 v4 ((I34 v1 1) - (I34 b37 v4.toNatClampNeg)) v2 kv0 u0 hu0_1 (by omega) (by first | assumption | solve_by_elim | (simp only [*]; assumption)) (fun  Z43 I41 L42 w_I41 bd_Z43 f_I41 c_Z43  => ?_)
      have q_I41 : FR Ws_X0_tally Z0 I0 Z43 I41 := q_I34.trans w0.1 w0.2.1 (f_I41.mono (by decide))
      have cp_Z43 : CP Z0 Z43 := cp_Z.trans q_I34.1 c_Z43
      have x_Z43 := f_I41.1
      have k44 := (f_I41.1 _ _ kv0).1
      have k45 := (f_I41.1 _ _ kv1).1
      have k46 := (f_I41.1 _ _ ku0).1
      have k47 := (f_I41.1 _ _ kv0).1
      have e48 := (f_I41.2.1 v0 0 0 kv0 (by decide) (by decide)).trans hu0_1
      have k49 := (f_I41.1 _ _ kb37).1
      have l50 := (f_I41.1 _ _ kb37).2.trans lb37
      have k51 := (f_I41.1 _ _ kv1).1
      have e52 := (f_I41.2.1 v1 6 7 kv1 (by decide) (by decide)).trans eb37
      have u53 : (I41 v1 15).toInt = (I34 v1 15).toInt := by rw [f_I41.2.2.1 v1 6 15 kv1 (by decide) (by decide)]
      have u54 : (I41 v1 1).toInt = (I34 v1 1).toInt := by rw [f_I41.2.2.1 v1 6 1 kv1 (by decide) (by decide)]
      intro x55 ex55
      have rx55 := i_rng x55
      first | (have tx55 : x55.toInt = v4.toInt + (1) := by (rw [ex55]; exact (i_add rfl (show (1 : Int32).toInt = 1 from rfl) (by omega) (by omega)))) | skip
      exact ih x55 Z43 I41 L42 w_I41 bd_Z43 q_I41 cp_Z43   (by omega)  (by omega)
set_option maxHeartbeats 4000000 in
set_option maxRecDepth 100000 in
theorem s_X0_tally {B : Nat × Nat} {T : Nat} {Z : jZ} {I : jI} {L : jL} (w_I : WD Z I) (bd_Z : BUD B Z T) (v0 : Nat) (v1 : Nat) (v2 : Int32) (v3 : Int32) (kv0 : jk Z v0 0) (kv1 : jk Z v1 6) (u0 : Nat) (hu0 : jr Z v0 0 = some u0) {Q : Int64 → jZ → jI → jL → Prop} (hQ : ∀ (r : Int64) (Z' : jZ) (I' : jI) (L' : jL), WD Z' I' → BUD B Z' T → FR Ws_X0_tally Z I Z' I' → CP Z Z' → Q r Z' I' L') : f_X0_tally B v0 v1 v2 v3 Z I L Q := by
  unfold f_X0_tally
  have q_I : FR Ws_X0_tally Z I Z I := FR.rf
  have cp_Z : CP Z Z := CP.rf
  have rv2 := i_rng v2
  have rv3 := i_rng v3
  have ku0 : jk Z u0 7 := by obtain ⟨b9, e9, k9⟩ := sh_o w_I.1 kv0 (j := 0) (k := 7) rfl; cases hu0.symm.trans e9; exact k9
  have cu0_9 := capN0 kv0 hu0
  intro L56 eL56
  have t58 : 0 ≤ (I v1 15).toInt ∧ (I v1 15).toInt ≤ 24 := w_I.fld 6 15 kv1 (by decide)
  refine ⟨fun c59 => ?_, fun c59 => ?_⟩
  · skip
    first | (have t60 : (I v1 15).toInt = (0) := (i_eq rfl (show (0 : Int32).toInt = 0 from rfl)).mp c59) | (have t60 : (I v1 15).toInt = (0 : Int32).toInt := (i_eq rfl rfl).mp c59) | skip
    unfold f_X0_tally_b33
    exact hQ (0 : Int64) Z I L56 w_I bd_Z q_I cp_Z 
  · skip
    first | (have t61 : ¬ ((I v1 15).toInt = (0)) := (not_congr (i_eq rfl (show (0 : Int32).toInt = 0 from rfl))).mp c59) | (have t61 : ¬ ((I v1 15).toInt = (0 : Int32).toInt) := (not_congr (i_eq rfl rfl)).mp c59) | skip
    refine ⟨fun c62 => ?_, fun c62 => ?_⟩
    · skip
      first | (have t63 : (I v1 2).toInt < v2.toInt := (i_lt rfl rfl).mp c62) | (have t63 : (I v1 2).toInt < v2.toInt := (i_lt rfl rfl).mp c62) | skip
      unfold f_X0_tally_b33
      exact hQ (0 : Int64) Z I L56 w_I bd_Z q_I cp_Z 
    · skip
      first | (have t64 : ¬ ((I v1 2).toInt < v2.toInt) := (not_congr (i_lt rfl rfl)).mp c62) | (have t64 : ¬ ((I v1 2).toInt < v2.toInt) := (not_congr (i_lt rfl rfl)).mp c62) | skip
      intro b65 eb65
      obtain ⟨x66, ex66, kb65, lb65⟩ := sh_f w_I.1 kv1 (j := 7) (k := 14) (m := 25) rfl
      cases eb65.symm.trans ex66
      refine ⟨fun c67 => ?_, fun c67 => ?_⟩
      · skip
        first | (have t68 : (I b65 (0 : Int32).toNatClampNeg).toInt ≤ (I v1 1).toInt := (i_le rfl rfl).mp c67) | (have t68 : (I b65 (0 : Int32).toNatClampNeg).toInt ≤ (I v1 1).toInt := (i_le rfl rfl).mp c67) | skip
        refine s_X0_findReach w_I v0 v1 kv0 kv1   (fun  I69 L70 w_I69 f_I69  => ?_)
        have q_I69 : FR Ws_X0_tally Z I Z I69 := q_I.trans w_I.1 w_I.2.1 (f_I69.mono (by decide))
        have u71 : (I69 u0 3).toInt = (I u0 3).toInt := by rw [f_I69.2.2.1 u0 7 3 ku0 (by decide) (by decide)]
        have u72 : (I69 v1 15).toInt = (I v1 15).toInt := by rw [f_I69.2.2.1 v1 6 15 kv1 (by decide) (by decide)]
        have u73 : (I69 v1 2).toInt = (I v1 2).toInt := by rw [f_I69.2.2.1 v1 6 2 kv1 (by decide) (by decide)]
        have u74 : (I69 v1 1).toInt = (I v1 1).toInt := by rw [f_I69.2.2.1 v1 6 1 kv1 (by decide) (by decide)]
        intro b75 eb75
        obtain rfl : u0 = b75 := Option.some.inj (hu0.symm.trans eb75)
        have t76 : (0 : Int32).toInt = 0 := rfl
        refine s_X7_begin w_I69 bd_Z u0 (0 : Int32) (1 : Int64) ku0  (by omega) (fun  Z80 I78 L79 w_I78 bd_Z80 f_I78 c_Z80 p77 => ?_)
        have q_I78 : FR Ws_X0_tally Z I Z80 I78 := q_I69.trans w_I.1 w_I.2.1 (f_I78.mono (by decide))
        have cp_Z80 : CP Z Z80 := cp_Z.trans q_I69.1 c_Z80
        have x_Z80 := f_I78.1
        have k81 := (f_I78.1 _ _ kv0).1
        have k82 := (f_I78.1 _ _ kv1).1
        have k83 := (f_I78.1 _ _ ku0).1
        have k84 := (f_I78.1 _ _ kv0).1
        have e85 := (f_I78.2.1 v0 0 0 kv0 (by decide) (by decide)).trans hu0
        have k86 := (f_I78.1 _ _ kb65).1
        have l87 := (f_I78.1 _ _ kb65).2.trans lb65
        have k88 := (f_I78.1 _ _ kv1).1
        have e89 := (f_I78.2.1 v1 6 7 kv1 (by decide) (by decide)).trans eb65
        have u90 : (I78 v1 15).toInt = (I69 v1 15).toInt := by rw [f_I78.2.2.1 v1 6 15 kv1 (by decide) (by decide)]
        have u91 : (I78 v1 2).toInt = (I69 v1 2).toInt := by rw [f_I78.2.2.1 v1 6 2 kv1 (by decide) (by decide)]
        have u92 : (I78 v1 1).toInt = (I69 v1 1).toInt := by rw [f_I78.2.2.1 v1 6 1 kv1 (by decide) (by decide)]
        obtain ⟨p77_0, p77_1⟩ := p77
        have t93 : (1 : Int32).toInt = 1 := rfl
        exact ⟨(25 - (1 : Int32).toInt).toNat + 1, l_X0_tally_L52 w_I v0 v1 v2 v3 kv0 kv1 u0 hu0   hQ   _ (1 : Int32) Z80 I78 L79 w_I78 bd_Z80 q_I78 cp_Z80   (by omega)  (by omega)⟩
      · skip
        first | (have t94 : ¬ ((I b65 (0 : Int32).toNatClampNeg).toInt ≤ (I v1 1).toInt) := (not_congr (i_le rfl rfl)).mp c67) | (have t94 : ¬ ((I b65 (0 : Int32).toNatClampNeg).toInt ≤ (I v1 1).toInt) := (not_congr (i_le rfl rfl)).mp c67) | skip
        unfold f_X0_tally_b33
        exact hQ (0 : Int64) Z I L56 w_I bd_Z q_I cp_Z 
def Ws_X6_raiseOne : List (Nat × Nat) := [(7, 1), (7, 2), (7, 3), (7, 4), (7, 5), (7, 8), (7, 9)]
set_option maxHeartbeats 4000000 in
set_option maxRecDepth 100000 in
theorem s_X6_raiseOne {B : Nat × Nat} {T : Nat} {Z : jZ} {I : jI} {L : jL} (w_I : WD Z I) (bd_Z : BUD B Z T) (v0 : Nat) (v1 : Int32) (kv0 : jk Z v0 6) (u9 : Nat) (hu9 : jr Z v0 9 = some u9) (p0 : (I u9 3).toInt ≤ 94209) {Q : jZ → jI → jL → Prop} (hQ : ∀  (Z' : jZ) (I' : jI) (L' : jL), WD Z' I' → BUD B Z' T → FR Ws_X6_raiseOne Z I Z' I' → CP Z Z' → ((I' u9 3).toInt ≤ (I u9 3).toInt + 4096 ∧ RO u9 Z I I') → Q Z' I' L') : f_X6_raiseOne B v0 v1 Z I L Q := by
  unfold f_X6_raiseOne
  have q_I : FR Ws_X6_raiseOne Z I Z I := FR.rf
  have ro_I : RO u9 Z I I := RO.rf
  have cp_Z : CP Z Z := CP.rf
  have rv1 := i_rng v1
  have ku9 : jk Z u9 7 := by obtain ⟨b9, e9, k9⟩ := sh_o w_I.1 kv0 (j := 9) (k := 7) rfl; cases hu9.symm.trans e9; exact k9
  refine ⟨fun c1 => ?_, fun c1 => ?_⟩
  · skip
    first | (have t2 : v1.toInt ≤ (0) := (i_le rfl (show (0 : Int32).toInt = 0 from rfl)).mp c1) | (have t2 : v1.toInt ≤ (0 : Int32).toInt := (i_le rfl rfl).mp c1) | skip
    exact hQ  Z I L w_I bd_Z q_I cp_Z (by refine ⟨?_, ?_⟩; (omega); exact ro_I)
  · skip
    first | (have t3 : ¬ (v1.toInt ≤ (0)) := (not_congr (i_le rfl (show (0 : Int32).toInt = 0 from rfl))).mp c1) | (have t3 : ¬ (v1.toInt ≤ (0 : Int32).toInt) := (not_congr (i_le rfl rfl)).mp c1) | skip
    have t5 : 0 ≤ (I v0 15).toInt ∧ (I v0 15).toInt ≤ 24 := w_I.fld 6 15 kv0 (by decide)
    refine ⟨fun c6 => ?_, fun c6 => ?_⟩
    · skip
      first | (have t7 : (I v0 15).toInt < v1.toInt := (i_lt rfl rfl).mp c6) | (have t7 : (I v0 15).toInt < v1.toInt := (i_lt rfl rfl).mp c6) | skip
      exact hQ  Z I L w_I bd_Z q_I cp_Z (by refine ⟨?_, ?_⟩; (omega); exact ro_I)
    · skip
      first | (have t8 : ¬ ((I v0 15).toInt < v1.toInt) := (not_congr (i_lt rfl rfl)).mp c6) | (have t8 : ¬ ((I v0 15).toInt < v1.toInt) := (not_congr (i_lt rfl rfl)).mp c6) | skip
      intro b9 eb9
      obtain rfl : u9 = b9 := Option.some.inj (hu9.symm.trans eb9)
      have t10 : (-1 : Int32).toInt = -1 := rfl
      refine s_X6_feed w_I v0 u9 v1 (-1 : Int64) (-1 : Int32) kv0 ku9  (by omega) (fun  I12 L13 w_I12 f_I12 p11 => ?_)
      have q_I12 : FR Ws_X6_raiseOne Z I Z I12 := q_I.trans w_I.1 w_I.2.1 (f_I12.mono (by decide))
      have u14 : (I12 v0 15).toInt = (I v0 15).toInt := by rw [f_I12.2.2.1 v0 6 15 kv0 (by decide) (by decide)]
      obtain ⟨p11_0, p11_1, p11_2⟩ := p11
      have ro_I12 : RO u9 Z I I12 := RO.trans q_I.1 ro_I p11_2
      intro b15 eb15
      obtain rfl : u9 = b15 := Option.some.inj (hu9.symm.trans eb15)
      intro b16 eb16
      obtain ⟨x17, ex17, kb16, lb16⟩ := sh_f w_I12.1 kv0 (j := 7) (k := 14) (m := 25) rfl
      cases eb16.symm.trans ex17
      have o18 : vp_in v1 25 := vi_of rfl (by omega) (by omega)
      refine ⟨o18, ?_⟩
      try (have t19 : ((I12 v0 1) - (I12 b16 v1.toNatClampNeg)).toInt = ((I12 v0 1).toInt - (I12 b16 v1.toNatClampNeg).toInt) := (i_sub rfl rfl (by omega) (by omega)))
      refine s_X7_keepCheapest w_I12 bd_Z u9 v1 ((I12 v0 1) - (I12 b16 v1.toNatClampNeg)) (I12 v0 2) ku9  (by omega) (by first | assumption | solve_by_elim | (simp only [*]; assumption)) (by omega) (fun  Z23 I21 L22 w_I21 bd_Z23 f_I21 c_Z23 p20 => ?_)
      have q_I21 : FR Ws_X6_raiseOne Z I Z23 I21 := q_I12.trans w_I.1 w_I.2.1 (f_I21.mono (by decide))
      have cp_Z23 : CP Z Z23 := cp_Z.trans q_I12.1 c_Z23
      have x_Z23 := f_I21.1
      have k24 := (f_I21.1 _ _ kv0).1
      have k25 := (f_I21.1 _ _ ku9).1
      have k26 := (f_I21.1 _ _ kv0).1
      have e27 := (f_I21.2.1 v0 6 9 kv0 (by decide) (by decide)).trans hu9
      have k28 := (f_I21.1 _ _ kb16).1
      have l29 := (f_I21.1 _ _ kb16).2.trans lb16
      have k30 := (f_I21.1 _ _ kv0).1
      have e31 := (f_I21.2.1 v0 6 7 kv0 (by decide) (by decide)).trans eb16
      have u32 : (I21 v0 15).toInt = (I12 v0 15).toInt := by rw [f_I21.2.2.1 v0 6 15 kv0 (by decide) (by decide)]
      have u33 : (I21 v0 1).toInt = (I12 v0 1).toInt := by rw [f_I21.2.2.1 v0 6 1 kv0 (by decide) (by decide)]
      have u34 : (I21 v0 2).toInt = (I12 v0 2).toInt := by rw [f_I21.2.2.1 v0 6 2 kv0 (by decide) (by decide)]
      obtain ⟨p20_0, p20_1⟩ := p20
      have ro_I21 : RO u9 Z I I21 := RO.trans q_I12.1 ro_I12 p20_1
      exact hQ  Z23 I21 L22 w_I21 bd_Z23 q_I21 cp_Z23 (by refine ⟨?_, ?_⟩; (omega); exact ro_I21)
def Ws_X6_raiseTo : List (Nat × Nat) := [(7, 1), (7, 2), (7, 3), (7, 4), (7, 5), (7, 8), (7, 9)]
set_option maxHeartbeats 4000000 in
set_option maxRecDepth 100000 in
theorem l_X6_raiseTo_L2 {B : Nat × Nat} {T : Nat} {Z0 : jZ} {I0 : jI} {Q : jZ → jI → jL → Prop} (w0 : WD Z0 I0) (v0 : Nat) (v1 : Int32) (kv0 : jk Z0 v0 6) (u9 : Nat) (hu9 : jr Z0 v0 9 = some u9) (p0 : (I0 u9 3).toInt ≤ 1) (hQ : ∀  (Z' : jZ) (I' : jI) (L' : jL), WD Z' I' → BUD B Z' T → FR Ws_X6_raiseTo Z0 I0 Z' I' → CP Z0 Z' → Q Z' I' L') : ∀ (n : Nat) (v2 : Int32) (Z : jZ) (I : jI) (L : jL), WD Z I → BUD B Z T → FR Ws_X6_raiseTo Z0 I0 Z I → CP Z0 Z →   (1 ≤ v2.toInt ∧ v2.toInt ≤ 25 ∧ (I u9 3).toInt ≤ 1 + 4096 * (v2.toInt - 1)) → 25 - v2.toInt < (n : Int) → f_X6_raiseTo_L2 B  Q n v0 v1 v2 Z I L := by
  intro n
  induction n with
  | zero =>
    intro v2 Z I L w_I bd_Z q_I cp_Z   li  me
    exfalso
    omega
  | succ n ih =>
    intro v2 Z I L w_I bd_Z q_I cp_Z   li  me
    unfold f_X6_raiseTo_L2
    have rv2 := i_rng v2
    have rv1 := i_rng v1
    have kv0_0 := kv0
    have kv0 := (q_I.1 _ _ kv0).1
    have hu9_1 : jr Z v0 9 = some u9 := (q_I.2.1 v0 6 9 kv0_0 (by decide) (by decide)).trans hu9
    have ku9 : jk Z u9 7 := by obtain ⟨b9, e9, k9⟩ := sh_o w_I.1 kv0 (j := 9) (k := 7) rfl; cases hu9_1.symm.trans e9; exact k9
    have xq_I := q_I.1
    refine ⟨fun c1 => ?_, fun c1 => ?_⟩
    · skip
      first | (have t2 : v1.toInt < v2.toInt := (i_lt rfl rfl).mp c1) | (have t2 : v1.toInt < v2.toInt := (i_lt rfl rfl).mp c1) | skip
      exact hQ  Z I L w_I bd_Z q_I cp_Z 
    · skip
      first | (have t3 : ¬ (v1.toInt < v2.toInt) := (not_congr (i_lt rfl rfl)).mp c1) | (have t3 : ¬ (v1.toInt < v2.toInt) := (not_congr (i_lt rfl rfl)).mp c1) | skip
      have t5 : 0 ≤ (I v0 15).toInt ∧ (I v0 15).toInt ≤ 24 := w_I.fld 6 15 kv0 (by decide)
      refine ⟨fun c6 => ?_, fun c6 => ?_⟩
      · skip
        first | (have t7 : (I v0 15).toInt < v2.toInt := (i_lt rfl rfl).mp c6) | (have t7 : (I v0 15).toInt < v2.toInt := (i_lt rfl rfl).mp c6) | skip
        exact hQ  Z I L w_I bd_Z q_I cp_Z 
      · skip
        first | (have t8 : ¬ ((I v0 15).toInt < v2.toInt) := (not_congr (i_lt rfl rfl)).mp c6) | (have t8 : ¬ ((I v0 15).toInt < v2.toInt) := (not_congr (i_lt rfl rfl)).mp c6) | skip
        refine s_X6_raiseOne w_I bd_Z v0 v2 kv0 u9 hu9_1 (by omega) (fun  Z12 I10 L11 w_I10 bd_Z12 f_I10 c_Z12 p9 => ?_)
        have q_I10 : FR Ws_X6_raiseTo Z0 I0 Z12 I10 := q_I.trans w0.1 w0.2.1 (f_I10.mono (by decide))
        have cp_Z12 : CP Z0 Z12 := cp_Z.trans q_I.1 c_Z12
        have x_Z12 := f_I10.1
        have k13 := (f_I10.1 _ _ kv0).1
        have k14 := (f_I10.1 _ _ ku9).1
        have k15 := (f_I10.1 _ _ kv0).1
        have e16 := (f_I10.2.1 v0 6 9 kv0 (by decide) (by decide)).trans hu9_1
        have u17 : (I10 v0 15).toInt = (I v0 15).toInt := by rw [f_I10.2.2.1 v0 6 15 kv0 (by decide) (by decide)]
        obtain ⟨p9_0, p9_1⟩ := p9
        intro x18 ex18
        have rx18 := i_rng x18
        first | (have tx18 : x18.toInt = v2.toInt + (1) := by (rw [ex18]; exact (i_add rfl (show (1 : Int32).toInt = 1 from rfl) (by omega) (by omega)))) | skip
        exact ih x18 Z12 I10 L11 w_I10 bd_Z12 q_I10 cp_Z12   (by omega)  (by omega)
set_option maxHeartbeats 4000000 in
set_option maxRecDepth 100000 in
theorem s_X6_raiseTo {B : Nat × Nat} {T : Nat} {Z : jZ} {I : jI} {L : jL} (w_I : WD Z I) (bd_Z : BUD B Z T) (v0 : Nat) (v1 : Int32) (kv0 : jk Z v0 6) (u9 : Nat) (hu9 : jr Z v0 9 = some u9) (p0 : (I u9 3).toInt ≤ 1) {Q : jZ → jI → jL → Prop} (hQ : ∀  (Z' : jZ) (I' : jI) (L' : jL), WD Z' I' → BUD B Z' T → FR Ws_X6_raiseTo Z I Z' I' → CP Z Z' → Q Z' I' L') : f_X6_raiseTo B v0 v1 Z I L Q := by
  unfold f_X6_raiseTo
  have q_I : FR Ws_X6_raiseTo Z I Z I := FR.rf
  have cp_Z : CP Z Z := CP.rf
  have rv1 := i_rng v1
  have ku9 : jk Z u9 7 := by obtain ⟨b9, e9, k9⟩ := sh_o w_I.1 kv0 (j := 9) (k := 7) rfl; cases hu9.symm.trans e9; exact k9
  have t19 : (1 : Int32).toInt = 1 := rfl
  exact ⟨(25 - (1 : Int32).toInt).toNat + 1, l_X6_raiseTo_L2 w_I v0 v1 kv0 u9 hu9 p0   hQ   _ (1 : Int32) Z I L w_I bd_Z q_I cp_Z   (by omega)  (by omega)⟩
def Ws_X6_cheapest : List (Nat × Nat) := [(7, 1), (7, 2), (7, 3), (7, 4), (7, 5), (7, 8), (7, 9)]
set_option maxHeartbeats 4000000 in
set_option maxRecDepth 100000 in
theorem s_X6_cheapest {B : Nat × Nat} {T : Nat} {Z : jZ} {I : jI} {L : jL} (w_I : WD Z I) (bd_Z : BUD B Z T) (v0 : Nat) (kv0 : jk Z v0 6) {Q : Int64 → jZ → jI → jL → Prop} (hQ : ∀ (r : Int64) (Z' : jZ) (I' : jI) (L' : jL), WD Z' I' → BUD B Z' T → FR Ws_X6_cheapest Z I Z' I' → CP Z Z' → Q r Z' I' L') : f_X6_cheapest B v0 Z I L Q := by
  unfold f_X6_cheapest
  have q_I : FR Ws_X6_cheapest Z I Z I := FR.rf
  have cp_Z : CP Z Z := CP.rf
  intro b1 eb1
  obtain ⟨x2, ex2, kb1, lb1⟩ := sh_f w_I.1 kv0 (j := 7) (k := 14) (m := 25) rfl
  cases eb1.symm.trans ex2
  refine ⟨fun c3 => ?_, fun c3 => ?_⟩
  · skip
    first | (have t4 : (I b1 (0 : Int32).toNatClampNeg).toInt ≤ (I v0 1).toInt := (i_le rfl rfl).mp c3) | (have t4 : (I b1 (0 : Int32).toNatClampNeg).toInt ≤ (I v0 1).toInt := (i_le rfl rfl).mp c3) | skip
    intro b5 eb5
    obtain ⟨x6, ex6, kb5⟩ := sh_o w_I.1 kv0 (j := 9) (k := 7) rfl
    cases eb5.symm.trans ex6
    have t7 : (0 : Int32).toInt = 0 := rfl
    refine s_X7_begin w_I bd_Z b5 (0 : Int32) (16777215 : Int64) kb5  (by omega) (fun  Z11 I9 L10 w_I9 bd_Z11 f_I9 c_Z11 p8 => ?_)
    have q_I9 : FR Ws_X6_cheapest Z I Z11 I9 := q_I.trans w_I.1 w_I.2.1 (f_I9.mono (by decide))
    have cp_Z11 : CP Z Z11 := cp_Z.trans q_I.1 c_Z11
    have x_Z11 := f_I9.1
    have k12 := (f_I9.1 _ _ kv0).1
    have k13 := (f_I9.1 _ _ kb1).1
    have l14 := (f_I9.1 _ _ kb1).2.trans lb1
    have k15 := (f_I9.1 _ _ kv0).1
    have e16 := (f_I9.2.1 v0 6 7 kv0 (by decide) (by decide)).trans eb1
    have k17 := (f_I9.1 _ _ kb5).1
    have k18 := (f_I9.1 _ _ kv0).1
    have e19 := (f_I9.2.1 v0 6 9 kv0 (by decide) (by decide)).trans eb5
    have u20 : (I9 v0 1).toInt = (I v0 1).toInt := by rw [f_I9.2.2.1 v0 6 1 kv0 (by decide) (by decide)]
    obtain ⟨p8_0, p8_1⟩ := p8
    have t22 : 0 ≤ (I9 v0 15).toInt ∧ (I9 v0 15).toInt ≤ 24 := w_I9.fld 6 15 k12 (by decide)
    refine s_X6_raiseTo w_I9 bd_Z11 v0 (I9 v0 15) k12 b5 e19 (by omega) (fun  Z25 I23 L24 w_I23 bd_Z25 f_I23 c_Z25  => ?_)
    have q_I23 : FR Ws_X6_cheapest Z I Z25 I23 := q_I9.trans w_I.1 w_I.2.1 (f_I23.mono (by decide))
    have cp_Z25 : CP Z Z25 := cp_Z11.trans q_I9.1 c_Z25
    have x_Z25 := f_I23.1
    have k26 := (f_I23.1 _ _ k12).1
    have k27 := (f_I23.1 _ _ k13).1
    have l28 := (f_I23.1 _ _ k13).2.trans l14
    have k29 := (f_I23.1 _ _ k15).1
    have e30 := (f_I23.2.1 v0 6 7 k15 (by decide) (by decide)).trans e16
    have k31 := (f_I23.1 _ _ k17).1
    have k32 := (f_I23.1 _ _ k18).1
    have e33 := (f_I23.2.1 v0 6 9 k18 (by decide) (by decide)).trans e19
    have u34 : (I23 v0 1).toInt = (I9 v0 1).toInt := by rw [f_I23.2.2.1 v0 6 1 k12 (by decide) (by decide)]
    have u35 : (I23 v0 15).toInt = (I9 v0 15).toInt := by rw [f_I23.2.2.1 v0 6 15 k12 (by decide) (by decide)]
    intro b36 eb36
    obtain rfl : b5 = b36 := Option.some.inj (e33.symm.trans eb36)
    have t38 : 0 ≤ (I23 v0 15).toInt ∧ (I23 v0 15).toInt ≤ 24 := w_I23.fld 6 15 k26 (by decide)
    refine s_X7_sizeAt w_I23 b5 (I23 v0 15) k31   (fun r39 p40 => ?_)
    obtain ⟨b41, eb41, kb41, lb41⟩ := sh_f w_I23.1 k31 (j := 1) (k := 14) (m := 25) rfl
    have t43 : 0 < r39.toInt → (0 ≤ (I23 v0 15).toInt ∧ (I23 v0 15).toInt ≤ 24 ∧ 0 ≤ (I23 b41 (I23 v0 15).toNatClampNeg).toInt ∧ (I23 b41 (I23 v0 15).toNatClampNeg).toInt + r39.toInt ≤ (I23 b5 3).toInt) := fun h9 => ⟨(p40.2.2 h9).1, (p40.2.2 h9).2.1, (p40.2.2 h9).2.2 _ eb41⟩
    have t44 := rw3 w_I23 k31
    obtain ⟨p40_0, p40_1, p40_2⟩ := p40
    have rr39 := i_rng r39
    refine ⟨fun c45 => ?_, fun c45 => ?_⟩
    · skip
      first | (have t46 : r39.toInt ≤ (0) := (i_le rfl (show (0 : Int32).toInt = 0 from rfl)).mp c45) | (have t46 : r39.toInt ≤ (0 : Int32).toInt := (i_le rfl rfl).mp c45) | skip
      exact hQ (9223372036854775807 : Int64) Z25 I23 L24 w_I23 bd_Z25 q_I23 cp_Z25 
    · skip
      first | (have t47 : ¬ (r39.toInt ≤ (0)) := (not_congr (i_le rfl (show (0 : Int32).toInt = 0 from rfl))).mp c45) | (have t47 : ¬ (r39.toInt ≤ (0 : Int32).toInt) := (not_congr (i_le rfl rfl)).mp c45) | skip
      intro b48 eb48
      obtain rfl : b5 = b48 := Option.some.inj (e33.symm.trans eb48)
      have t50 : 0 ≤ (I23 v0 15).toInt ∧ (I23 v0 15).toInt ≤ 24 := w_I23.fld 6 15 k26 (by decide)
      have t51 : (0 : Int32).toInt = 0 := rfl
      refine s_X7_keyAt w_I23 b5 (I23 v0 15) (0 : Int32) k31   (fun r52  => ?_)
      exact hQ r52 Z25 I23 L24 w_I23 bd_Z25 q_I23 cp_Z25 
  · skip
    first | (have t53 : ¬ ((I b1 (0 : Int32).toNatClampNeg).toInt ≤ (I v0 1).toInt) := (not_congr (i_le rfl rfl)).mp c3) | (have t53 : ¬ ((I b1 (0 : Int32).toNatClampNeg).toInt ≤ (I v0 1).toInt) := (not_congr (i_le rfl rfl)).mp c3) | skip
    exact hQ (9223372036854775807 : Int64) Z I L w_I bd_Z q_I cp_Z 
def Ws_X6_lower : List (Nat × Nat) := [(7, 1), (7, 2), (7, 3), (7, 4), (7, 5), (7, 8), (7, 9)]
set_option maxHeartbeats 4000000 in
set_option maxRecDepth 100000 in
theorem l_X6_lower_L10 {B : Nat × Nat} {T : Nat} {Z0 : jZ} {I0 : jI} {Q : jZ → jI → jL → Prop} (w0 : WD Z0 I0) (v0 : Nat) (v1 : Int32) (kv0 : jk Z0 v0 6) (u10 : Nat) (hu10 : jr Z0 v0 10 = some u10) (p0 : 1 ≤ v1.toInt ∧ v1.toInt ≤ 23) (p1 : (I0 u10 3).toInt ≤ 94209) (hQ : ∀  (Z' : jZ) (I' : jI) (L' : jL), WD Z' I' → BUD B Z' T → FR Ws_X6_lower Z0 I0 Z' I' → CP Z0 Z' → ((I' u10 3).toInt ≤ (I0 u10 3).toInt + 4096 ∧ RO u10 Z0 I0 I') → Q Z' I' L') : ∀ (n : Nat) (v2 : Int32) (Z : jZ) (I : jI) (L : jL), WD Z I → BUD B Z T → FR Ws_X6_lower Z0 I0 Z I → CP Z0 Z →   ((1 ≤ v2.toInt ∧ v2.toInt ≤ 4) ∧ (I u10 3).toInt = (I0 u10 3).toInt ∧ FI Z I u10 v1.toNatClampNeg ∧ RO u10 Z0 I0 I) → 4 - v2.toInt < (n : Int) → f_X6_lower_L10 B  Q n v0 v1 v2 Z I L := by
  intro n
  induction n with
  | zero =>
    intro v2 Z I L w_I bd_Z q_I cp_Z   li  me
    exfalso
    omega
  | succ n ih =>
    intro v2 Z I L w_I bd_Z q_I cp_Z   li  me
    unfold f_X6_lower_L10
    have rv2 := i_rng v2
    have rv1 := i_rng v1
    obtain ⟨li0, li1, li2, li3⟩ := li
    have ro_I := li3
    have kv0_0 := kv0
    have kv0 := (q_I.1 _ _ kv0).1
    have hu10_1 : jr Z v0 10 = some u10 := (q_I.2.1 v0 6 10 kv0_0 (by decide) (by decide)).trans hu10
    have ku10 : jk Z u10 7 := by obtain ⟨b9, e9, k9⟩ := sh_o w_I.1 kv0 (j := 10) (k := 7) rfl; cases hu10_1.symm.trans e9; exact k9
    have xq_I := q_I.1
    have t2 : 0 ≤ (I v0 3).toInt ∧ (I v0 3).toInt ≤ 3 := w_I.fld 6 3 kv0 (by decide)
    refine ⟨fun c3 => ?_, fun c3 => ?_⟩
    · skip
      first | (have t4 : (I v0 3).toInt < v2.toInt := (i_lt rfl rfl).mp c3) | (have t4 : (I v0 3).toInt < v2.toInt := (i_lt rfl rfl).mp c3) | skip
      unfold f_X6_lower_b72
      intro b5 eb5
      obtain rfl : u10 = b5 := Option.some.inj (hu10_1.symm.trans eb5)
      intro b6 eb6
      obtain ⟨x7, ex7, kb6, lb6⟩ := sh_f w_I.1 kv0 (j := 8) (k := 14) (m := 25) rfl
      cases eb6.symm.trans ex7
      have o8 : vp_in v1 25 := vi_of rfl (by omega) (by omega)
      refine ⟨o8, ?_⟩
      try (have t9 : ((I v0 1) - (I b6 v1.toNatClampNeg)).toInt = ((I v0 1).toInt - (I b6 v1.toNatClampNeg).toInt) := (i_sub rfl rfl (by omega) (by omega)))
      refine s_X7_keepCheapest w_I bd_Z u10 v1 ((I v0 1) - (I b6 v1.toNatClampNeg)) (I v0 2) ku10  (by omega) (by first | assumption | solve_by_elim | (simp only [*]; assumption)) (by omega) (fun  Z13 I11 L12 w_I11 bd_Z13 f_I11 c_Z13 p10 => ?_)
      have q_I11 : FR Ws_X6_lower Z0 I0 Z13 I11 := q_I.trans w0.1 w0.2.1 (f_I11.mono (by decide))
      have cp_Z13 : CP Z0 Z13 := cp_Z.trans q_I.1 c_Z13
      have x_Z13 := f_I11.1
      have k14 := (f_I11.1 _ _ kv0).1
      have k15 := (f_I11.1 _ _ ku10).1
      have k16 := (f_I11.1 _ _ kv0).1
      have e17 := (f_I11.2.1 v0 6 10 kv0 (by decide) (by decide)).trans hu10_1
      have k18 := (f_I11.1 _ _ kb6).1
      have l19 := (f_I11.1 _ _ kb6).2.trans lb6
      have k20 := (f_I11.1 _ _ kv0).1
      have e21 := (f_I11.2.1 v0 6 8 kv0 (by decide) (by decide)).trans eb6
      have u22 : (I11 v0 3).toInt = (I v0 3).toInt := by rw [f_I11.2.2.1 v0 6 3 kv0 (by decide) (by decide)]
      have u23 : (I11 v0 1).toInt = (I v0 1).toInt := by rw [f_I11.2.2.1 v0 6 1 kv0 (by decide) (by decide)]
      have u24 : (I11 v0 2).toInt = (I v0 2).toInt := by rw [f_I11.2.2.1 v0 6 2 kv0 (by decide) (by decide)]
      obtain ⟨p10_0, p10_1⟩ := p10
      have ro_I11 : RO u10 Z0 I0 I11 := RO.trans q_I.1 ro_I p10_1
      exact hQ  Z13 I11 L12 w_I11 bd_Z13 q_I11 cp_Z13 (by refine ⟨?_, ?_⟩; (omega); exact ro_I11)
    · skip
      first | (have t25 : ¬ ((I v0 3).toInt < v2.toInt) := (not_congr (i_lt rfl rfl)).mp c3) | (have t25 : ¬ ((I v0 3).toInt < v2.toInt) := (not_congr (i_lt rfl rfl)).mp c3) | skip
      have t27 : 0 ≤ (I v0 15).toInt ∧ (I v0 15).toInt ≤ 24 := w_I.fld 6 15 kv0 (by decide)
      refine ⟨fun c28 => ?_, fun c28 => ?_⟩
      · skip
        first | (have t29 : (I v0 15).toInt < (v1.toInt + v2.toInt) := (i_lt rfl (i_add rfl rfl (by omega) (by omega))).mp c28) | (have t29 : (I v0 15).toInt < (v1 + v2).toInt := (i_lt rfl rfl).mp c28) | skip
        unfold f_X6_lower_b72
        intro b30 eb30
        obtain rfl : u10 = b30 := Option.some.inj (hu10_1.symm.trans eb30)
        intro b31 eb31
        obtain ⟨x32, ex32, kb31, lb31⟩ := sh_f w_I.1 kv0 (j := 8) (k := 14) (m := 25) rfl
        cases eb31.symm.trans ex32
        have o33 : vp_in v1 25 := vi_of rfl (by omega) (by omega)
        refine ⟨o33, ?_⟩
        try (have t34 : ((I v0 1) - (I b31 v1.toNatClampNeg)).toInt = ((I v0 1).toInt - (I b31 v1.toNatClampNeg).toInt) := (i_sub rfl rfl (by omega) (by omega)))
        refine s_X7_keepCheapest w_I bd_Z u10 v1 ((I v0 1) - (I b31 v1.toNatClampNeg)) (I v0 2) ku10  (by omega) (by first | assumption | solve_by_elim | (simp only [*]; assumption)) (by omega) (fun  Z38 I36 L37 w_I36 bd_Z38 f_I36 c_Z38 p35 => ?_)
        have q_I36 : FR Ws_X6_lower Z0 I0 Z38 I36 := q_I.trans w0.1 w0.2.1 (f_I36.mono (by decide))
        have cp_Z38 : CP Z0 Z38 := cp_Z.trans q_I.1 c_Z38
        have x_Z38 := f_I36.1
        have k39 := (f_I36.1 _ _ kv0).1
        have k40 := (f_I36.1 _ _ ku10).1
        have k41 := (f_I36.1 _ _ kv0).1
        have e42 := (f_I36.2.1 v0 6 10 kv0 (by decide) (by decide)).trans hu10_1
        have k43 := (f_I36.1 _ _ kb31).1
        have l44 := (f_I36.1 _ _ kb31).2.trans lb31
        have k45 := (f_I36.1 _ _ kv0).1
        have e46 := (f_I36.2.1 v0 6 8 kv0 (by decide) (by decide)).trans eb31
        have u47 : (I36 v0 3).toInt = (I v0 3).toInt := by rw [f_I36.2.2.1 v0 6 3 kv0 (by decide) (by decide)]
        have u48 : (I36 v0 15).toInt = (I v0 15).toInt := by rw [f_I36.2.2.1 v0 6 15 kv0 (by decide) (by decide)]
        have u49 : (I36 v0 1).toInt = (I v0 1).toInt := by rw [f_I36.2.2.1 v0 6 1 kv0 (by decide) (by decide)]
        have u50 : (I36 v0 2).toInt = (I v0 2).toInt := by rw [f_I36.2.2.1 v0 6 2 kv0 (by decide) (by decide)]
        obtain ⟨p35_0, p35_1⟩ := p35
        have ro_I36 : RO u10 Z0 I0 I36 := RO.trans q_I.1 ro_I p35_1
        exact hQ  Z38 I36 L37 w_I36 bd_Z38 q_I36 cp_Z38 (by refine ⟨?_, ?_⟩; (omega); exact ro_I36)
      · skip
        first | (have t51 : ¬ ((I v0 15).toInt < (v1.toInt + v2.toInt)) := (not_congr (i_lt rfl (i_add rfl rfl (by omega) (by omega)))).mp c28) | (have t51 : ¬ ((I v0 15).toInt < (v1 + v2).toInt) := (not_congr (i_lt rfl rfl)).mp c28) | skip
        intro b52 eb52
        obtain ⟨x53, ex53, kb52, lb52⟩ := sh_f w_I.1 kv0 (j := 6) (k := 16) (m := 25) rfl
        cases eb52.symm.trans ex53
        have o54 : vp_in v1 25 := vi_of rfl (by omega) (by omega)
        refine ⟨o54, ?_⟩
        refine ⟨fun c55 => ?_, fun c55 => ?_⟩
        · skip
          first | (have t56 : (I b52 v1.toNatClampNeg).toInt = (0) := (i_eq rfl (show (0 : Int32).toInt = 0 from rfl)).mp c55) | (have t56 : (I b52 v1.toNatClampNeg).toInt = (0 : Int32).toInt := (i_eq rfl rfl).mp c55) | skip
          unfold f_X6_lower_b72
          intro b57 eb57
          obtain rfl : u10 = b57 := Option.some.inj (hu10_1.symm.trans eb57)
          intro b58 eb58
          obtain ⟨x59, ex59, kb58, lb58⟩ := sh_f w_I.1 kv0 (j := 8) (k := 14) (m := 25) rfl
          cases eb58.symm.trans ex59
          have o60 : vp_in v1 25 := vi_of rfl (by omega) (by omega)
          refine ⟨o60, ?_⟩
          try (have t61 : ((I v0 1) - (I b58 v1.toNatClampNeg)).toInt = ((I v0 1).toInt - (I b58 v1.toNatClampNeg).toInt) := (i_sub rfl rfl (by omega) (by omega)))
          refine s_X7_keepCheapest w_I bd_Z u10 v1 ((I v0 1) - (I b58 v1.toNatClampNeg)) (I v0 2) ku10  (by omega) (by first | assumption | solve_by_elim | (simp only [*]; assumption)) (by omega) (fun  Z65 I63 L64 w_I63 bd_Z65 f_I63 c_Z65 p62 => ?_)
          have q_I63 : FR Ws_X6_lower Z0 I0 Z65 I63 := q_I.trans w0.1 w0.2.1 (f_I63.mono (by decide))
          have cp_Z65 : CP Z0 Z65 := cp_Z.trans q_I.1 c_Z65
          have x_Z65 := f_I63.1
          have k66 := (f_I63.1 _ _ kv0).1
          have k67 := (f_I63.1 _ _ ku10).1
          have k68 := (f_I63.1 _ _ kv0).1
          have e69 := (f_I63.2.1 v0 6 10 kv0 (by decide) (by decide)).trans hu10_1
          have k70 := (f_I63.1 _ _ kb52).1
          have l71 := (f_I63.1 _ _ kb52).2.trans lb52
          have k72 := (f_I63.1 _ _ kv0).1
          have e73 := (f_I63.2.1 v0 6 6 kv0 (by decide) (by decide)).trans eb52
          have k74 := (f_I63.1 _ _ kb58).1
          have l75 := (f_I63.1 _ _ kb58).2.trans lb58
          have k76 := (f_I63.1 _ _ kv0).1
          have e77 := (f_I63.2.1 v0 6 8 kv0 (by decide) (by decide)).trans eb58
          have u78 : (I63 v0 3).toInt = (I v0 3).toInt := by rw [f_I63.2.2.1 v0 6 3 kv0 (by decide) (by decide)]
          have u79 : (I63 v0 15).toInt = (I v0 15).toInt := by rw [f_I63.2.2.1 v0 6 15 kv0 (by decide) (by decide)]
          have u80 : (I63 v0 1).toInt = (I v0 1).toInt := by rw [f_I63.2.2.1 v0 6 1 kv0 (by decide) (by decide)]
          have u81 : (I63 v0 2).toInt = (I v0 2).toInt := by rw [f_I63.2.2.1 v0 6 2 kv0 (by decide) (by decide)]
          obtain ⟨p62_0, p62_1⟩ := p62
          have ro_I63 : RO u10 Z0 I0 I63 := RO.trans q_I.1 ro_I p62_1
          exact hQ  Z65 I63 L64 w_I63 bd_Z65 q_I63 cp_Z65 (by refine ⟨?_, ?_⟩; (omega); exact ro_I63)
        · skip
          first | (have t82 : ¬ ((I b52 v1.toNatClampNeg).toInt = (0)) := (not_congr (i_eq rfl (show (0 : Int32).toInt = 0 from rfl))).mp c55) | (have t82 : ¬ ((I b52 v1.toNatClampNeg).toInt = (0 : Int32).toInt) := (not_congr (i_eq rfl rfl)).mp c55) | skip
          intro b83 eb83
          obtain rfl : b52 = b83 := Option.some.inj (eb52.symm.trans eb83)
          have o84 : vp_in (v1 + v2) 25 := vi_of (i_add rfl rfl (by omega) (by omega)) (by omega) (by omega)
          refine ⟨o84, ?_⟩
          refine ⟨fun c85 => ?_, fun c85 => ?_⟩
          · skip
            first | (have t86 : (I b52 (v1 + v2).toNatClampNeg).toInt = (0) := (i_eq rfl (show (0 : Int32).toInt = 0 from rfl)).mp c85) | (have t86 : (I b52 (v1 + v2).toNatClampNeg).toInt = (0 : Int32).toInt := (i_eq rfl rfl).mp c85) | skip
            unfold f_X6_lower_b66
            intro x87 ex87
            have rx87 := i_rng x87
            first | (have tx87 : x87.toInt = v2.toInt + (1) := by (rw [ex87]; exact (i_add rfl (show (1 : Int32).toInt = 1 from rfl) (by omega) (by omega)))) | skip
            exact ih x87 Z I L w_I bd_Z q_I cp_Z   (by refine ⟨?_, ?_, ?_, ?_⟩; (omega); (omega); (first | assumption | solve_by_elim); exact ro_I)  (by omega)
          · skip
            first | (have t88 : ¬ ((I b52 (v1 + v2).toNatClampNeg).toInt = (0)) := (not_congr (i_eq rfl (show (0 : Int32).toInt = 0 from rfl))).mp c85) | (have t88 : ¬ ((I b52 (v1 + v2).toNatClampNeg).toInt = (0 : Int32).toInt) := (not_congr (i_eq rfl rfl)).mp c85) | skip
            intro b89 eb89
            obtain rfl : u10 = b89 := Option.some.inj (hu10_1.symm.trans eb89)
            try (have t90 : (v1 + v2).toInt = (v1.toInt + v2.toInt) := (i_add rfl rfl (by omega) (by omega)))
            refine s_X6_keyOf w_I v0 (v1 + v2) v2 kv0  (by omega) (fun r91  => ?_)
            try (have t92 : (v1 + v2).toInt = (v1.toInt + v2.toInt) := (i_add rfl rfl (by omega) (by omega)))
            refine s_X7_merge w_I u10 (v1 + v2) r91 ku10   (fun  I94 L95 w_I94 f_I94 p93 => ?_)
            have q_I94 : FR Ws_X6_lower Z0 I0 Z I94 := q_I.trans w0.1 w0.2.1 (f_I94.mono (by decide))
            have u96 : (I94 v0 3).toInt = (I v0 3).toInt := by rw [f_I94.2.2.1 v0 6 3 kv0 (by decide) (by decide)]
            have u97 : (I94 v0 15).toInt = (I v0 15).toInt := by rw [f_I94.2.2.1 v0 6 15 kv0 (by decide) (by decide)]
            obtain ⟨p93_0, p93_1, p93_2⟩ := p93
            have ro_I94 : RO u10 Z0 I0 I94 := RO.trans q_I.1 ro_I p93_2
            unfold f_X6_lower_b66
            intro x98 ex98
            have rx98 := i_rng x98
            first | (have tx98 : x98.toInt = v2.toInt + (1) := by (rw [ex98]; exact (i_add rfl (show (1 : Int32).toInt = 1 from rfl) (by omega) (by omega)))) | skip
            exact ih x98 Z I94 L95 w_I94 bd_Z q_I94 cp_Z   (by refine ⟨?_, ?_, ?_, ?_⟩; (omega); (omega); (first | assumption | solve_by_elim); exact ro_I94)  (by omega)
set_option maxHeartbeats 4000000 in
set_option maxRecDepth 100000 in
theorem s_X6_lower {B : Nat × Nat} {T : Nat} {Z : jZ} {I : jI} {L : jL} (w_I : WD Z I) (bd_Z : BUD B Z T) (v0 : Nat) (v1 : Int32) (kv0 : jk Z v0 6) (u10 : Nat) (hu10 : jr Z v0 10 = some u10) (p0 : 1 ≤ v1.toInt ∧ v1.toInt ≤ 23) (p1 : (I u10 3).toInt ≤ 94209) {Q : jZ → jI → jL → Prop} (hQ : ∀  (Z' : jZ) (I' : jI) (L' : jL), WD Z' I' → BUD B Z' T → FR Ws_X6_lower Z I Z' I' → CP Z Z' → ((I' u10 3).toInt ≤ (I u10 3).toInt + 4096 ∧ RO u10 Z I I') → Q Z' I' L') : f_X6_lower B v0 v1 Z I L Q := by
  unfold f_X6_lower
  have q_I : FR Ws_X6_lower Z I Z I := FR.rf
  have ro_I : RO u10 Z I I := RO.rf
  have cp_Z : CP Z Z := CP.rf
  have rv1 := i_rng v1
  have ku10 : jk Z u10 7 := by obtain ⟨b9, e9, k9⟩ := sh_o w_I.1 kv0 (j := 10) (k := 7) rfl; cases hu10.symm.trans e9; exact k9
  intro b99 eb99
  obtain rfl : u10 = b99 := Option.some.inj (hu10.symm.trans eb99)
  refine s_X7_start w_I u10 v1 ku10  (by omega) (fun  I101 L102 w_I101 f_I101 p100 => ?_)
  have q_I101 : FR Ws_X6_lower Z I Z I101 := q_I.trans w_I.1 w_I.2.1 (f_I101.mono (by decide))
  obtain ⟨p100_0, p100_1, p100_2⟩ := p100
  have ro_I101 : RO u10 Z I I101 := RO.trans q_I.1 ro_I p100_2
  have t103 : (1 : Int32).toInt = 1 := rfl
  exact ⟨(4 - (1 : Int32).toInt).toNat + 1, l_X6_lower_L10 w_I v0 v1 kv0 u10 hu10 p0 p1   hQ   _ (1 : Int32) Z I101 L102 w_I101 bd_Z q_I101 cp_Z   (by refine ⟨?_, ?_, ?_, ?_⟩; (omega); (omega); (first | assumption | solve_by_elim); exact ro_I101)  (by omega)⟩
def Ws_X6_survey : List (Nat × Nat) := [(6, 8), (7, 1), (7, 2), (7, 3), (7, 4), (7, 5), (7, 8), (7, 9)]
set_option maxHeartbeats 4000000 in
set_option maxRecDepth 100000 in
theorem l_X6_survey_L48 {B : Nat × Nat} {T : Nat} {Z0 : jZ} {I0 : jI} {Q : jZ → jI → jL → Prop} (w0 : WD Z0 I0) (v0 : Nat) (kv0 : jk Z0 v0 6) (u9 : Nat) (hu9 : jr Z0 v0 9 = some u9) (u10 : Nat) (hu10 : jr Z0 v0 10 = some u10) (hQ : ∀  (Z' : jZ) (I' : jI) (L' : jL), WD Z' I' → BUD B Z' T → FR Ws_X6_survey Z0 I0 Z' I' → CP Z0 Z' → ((I' u9 3).toInt ≤ 1 ∧ RO2 u9 u10 Z0 I0 I') → Q Z' I' L') : ∀ (n : Nat) (v1 : Int32) (Z : jZ) (I : jI) (L : jL), WD Z I → BUD B Z T → FR Ws_X6_survey Z0 I0 Z I → CP Z0 Z →   ((-1 ≤ v1.toInt ∧ v1.toInt ≤ 23) ∧ (I u10 3).toInt ≤ 1 + 4096 * (23 - v1.toInt) ∧ RO2 u9 u10 Z0 I0 I) → v1.toInt + 1 < (n : Int) → f_X6_survey_L48 B  Q n v0 v1 Z I L := by
  intro n
  induction n with
  | zero =>
    intro v1 Z I L w_I bd_Z q_I cp_Z   li  me
    exfalso
    omega
  | succ n ih =>
    intro v1 Z I L w_I bd_Z q_I cp_Z   li  me
    unfold f_X6_survey_L48
    have rv1 := i_rng v1
    obtain ⟨li0, li1, li2⟩ := li
    have ro_I := li2
    have kv0_0 := kv0
    have kv0 := (q_I.1 _ _ kv0).1
    have hu9_1 : jr Z v0 9 = some u9 := (q_I.2.1 v0 6 9 kv0_0 (by decide) (by decide)).trans hu9
    have ku9 : jk Z u9 7 := by obtain ⟨b9, e9, k9⟩ := sh_o w_I.1 kv0 (j := 9) (k := 7) rfl; cases hu9_1.symm.trans e9; exact k9
    have hu10_1 : jr Z v0 10 = some u10 := (q_I.2.1 v0 6 10 kv0_0 (by decide) (by decide)).trans hu10
    have ku10 : jk Z u10 7 := by obtain ⟨b9, e9, k9⟩ := sh_o w_I.1 kv0 (j := 10) (k := 7) rfl; cases hu10_1.symm.trans e9; exact k9
    have xq_I := q_I.1
    refine ⟨fun c1 => ?_, fun c1 => ?_⟩
    · skip
      first | (have t2 : v1.toInt ≤ (0) := (i_le rfl (show (0 : Int32).toInt = 0 from rfl)).mp c1) | (have t2 : v1.toInt ≤ (0 : Int32).toInt := (i_le rfl rfl).mp c1) | skip
      intro b3 eb3
      obtain rfl : u9 = b3 := Option.some.inj (hu9_1.symm.trans eb3)
      have t4 : (0 : Int32).toInt = 0 := rfl
      refine s_X7_begin w_I bd_Z u9 (0 : Int32) (16777215 : Int64) ku9  (by omega) (fun  Z8 I6 L7 w_I6 bd_Z8 f_I6 c_Z8 p5 => ?_)
      have q_I6 : FR Ws_X6_survey Z0 I0 Z8 I6 := q_I.trans w0.1 w0.2.1 (f_I6.mono (by decide))
      have cp_Z8 : CP Z0 Z8 := cp_Z.trans q_I.1 c_Z8
      have x_Z8 := f_I6.1
      have k9 := (f_I6.1 _ _ kv0).1
      have k10 := (f_I6.1 _ _ ku9).1
      have k11 := (f_I6.1 _ _ kv0).1
      have e12 := (f_I6.2.1 v0 6 9 kv0 (by decide) (by decide)).trans hu9_1
      have k13 := (f_I6.1 _ _ ku10).1
      have k14 := (f_I6.1 _ _ kv0).1
      have e15 := (f_I6.2.1 v0 6 10 kv0 (by decide) (by decide)).trans hu10_1
      obtain ⟨p5_0, p5_1⟩ := p5
      have ro_I6 : RO2 u9 u10 Z0 I0 I6 := RO2.trans q_I.1 ro_I (RO2.a p5_1)
      exact hQ  Z8 I6 L7 w_I6 bd_Z8 q_I6 cp_Z8 (by refine ⟨?_, ?_⟩; (omega); exact ro_I6)
    · skip
      first | (have t16 : ¬ (v1.toInt ≤ (0)) := (not_congr (i_le rfl (show (0 : Int32).toInt = 0 from rfl))).mp c1) | (have t16 : ¬ (v1.toInt ≤ (0 : Int32).toInt) := (not_congr (i_le rfl rfl)).mp c1) | skip
      refine s_X6_lower w_I bd_Z v0 v1 kv0 u10 hu10_1 (by omega) (by omega) (fun  Z20 I18 L19 w_I18 bd_Z20 f_I18 c_Z20 p17 => ?_)
      have q_I18 : FR Ws_X6_survey Z0 I0 Z20 I18 := q_I.trans w0.1 w0.2.1 (f_I18.mono (by decide))
      have cp_Z20 : CP Z0 Z20 := cp_Z.trans q_I.1 c_Z20
      have x_Z20 := f_I18.1
      have k21 := (f_I18.1 _ _ kv0).1
      have k22 := (f_I18.1 _ _ ku9).1
      have k23 := (f_I18.1 _ _ kv0).1
      have e24 := (f_I18.2.1 v0 6 9 kv0 (by decide) (by decide)).trans hu9_1
      have k25 := (f_I18.1 _ _ ku10).1
      have k26 := (f_I18.1 _ _ kv0).1
      have e27 := (f_I18.2.1 v0 6 10 kv0 (by decide) (by decide)).trans hu10_1
      obtain ⟨p17_0, p17_1⟩ := p17
      have ro_I18 : RO2 u9 u10 Z0 I0 I18 := RO2.trans q_I.1 ro_I (RO2.b p17_1)
      intro x28 ex28
      have rx28 := i_rng x28
      first | (have tx28 : x28.toInt = v1.toInt + (-1) := by (rw [ex28]; exact (i_add rfl (show (-1 : Int32).toInt = -1 from rfl) (by omega) (by omega)))) | skip
      exact ih x28 Z20 I18 L19 w_I18 bd_Z20 q_I18 cp_Z20   (by refine ⟨?_, ?_, ?_⟩; (omega); (omega); exact ro_I18)  (by omega)
set_option maxHeartbeats 4000000 in
set_option maxRecDepth 100000 in
theorem l_X6_survey_L2 {B : Nat × Nat} {T : Nat} {Z0 : jZ} {I0 : jI} {Q : jZ → jI → jL → Prop} (w0 : WD Z0 I0) (v0 : Nat) (kv0 : jk Z0 v0 6) (u9 : Nat) (hu9 : jr Z0 v0 9 = some u9) (u10 : Nat) (hu10 : jr Z0 v0 10 = some u10) (hQ : ∀  (Z' : jZ) (I' : jI) (L' : jL), WD Z' I' → BUD B Z' T → FR Ws_X6_survey Z0 I0 Z' I' → CP Z0 Z' → ((I' u9 3).toInt ≤ 1 ∧ RO2 u9 u10 Z0 I0 I') → Q Z' I' L') : ∀ (n : Nat) (v1 : Int32) (Z : jZ) (I : jI) (L : jL), WD Z I → BUD B Z T → FR Ws_X6_survey Z0 I0 Z I → CP Z0 Z →   ((0 ≤ v1.toInt ∧ v1.toInt ≤ 25) ∧ RO2 u9 u10 Z0 I0 I) → 25 - v1.toInt < (n : Int) → f_X6_survey_L2 B  Q n v0 v1 Z I L := by
  intro n
  induction n with
  | zero =>
    intro v1 Z I L w_I bd_Z q_I cp_Z   li  me
    exfalso
    omega
  | succ n ih =>
    intro v1 Z I L w_I bd_Z q_I cp_Z   li  me
    unfold f_X6_survey_L2
    have rv1 := i_rng v1
    obtain ⟨li0, li1⟩ := li
    have ro_I := li1
    have kv0_0 := kv0
    have kv0 := (q_I.1 _ _ kv0).1
    have hu9_1 : jr Z v0 9 = some u9 := (q_I.2.1 v0 6 9 kv0_0 (by decide) (by decide)).trans hu9
    have ku9 : jk Z u9 7 := by obtain ⟨b9, e9, k9⟩ := sh_o w_I.1 kv0 (j := 9) (k := 7) rfl; cases hu9_1.symm.trans e9; exact k9
    have hu10_1 : jr Z v0 10 = some u10 := (q_I.2.1 v0 6 10 kv0_0 (by decide) (by decide)).trans hu10
    have ku10 : jk Z u10 7 := by obtain ⟨b9, e9, k9⟩ := sh_o w_I.1 kv0 (j := 10) (k := 7) rfl; cases hu10_1.symm.trans e9; exact k9
    have xq_I := q_I.1
    have t30 : 0 ≤ (I v0 15).toInt ∧ (I v0 15).toInt ≤ 24 := w_I.fld 6 15 kv0 (by decide)
    refine ⟨fun c31 => ?_, fun c31 => ?_⟩
    · skip
      first | (have t32 : (I v0 15).toInt < v1.toInt := (i_lt rfl rfl).mp c31) | (have t32 : (I v0 15).toInt < v1.toInt := (i_lt rfl rfl).mp c31) | skip
      intro b33 eb33
      obtain rfl : u10 = b33 := Option.some.inj (hu10_1.symm.trans eb33)
      have t35 : 0 ≤ (I v0 15).toInt ∧ (I v0 15).toInt ≤ 24 := w_I.fld 6 15 kv0 (by decide)
      refine s_X7_begin w_I bd_Z u10 (I v0 15) (16777215 : Int64) ku10  (by omega) (fun  Z39 I37 L38 w_I37 bd_Z39 f_I37 c_Z39 p36 => ?_)
      have q_I37 : FR Ws_X6_survey Z0 I0 Z39 I37 := q_I.trans w0.1 w0.2.1 (f_I37.mono (by decide))
      have cp_Z39 : CP Z0 Z39 := cp_Z.trans q_I.1 c_Z39
      have x_Z39 := f_I37.1
      have k40 := (f_I37.1 _ _ kv0).1
      have k41 := (f_I37.1 _ _ ku9).1
      have k42 := (f_I37.1 _ _ kv0).1
      have e43 := (f_I37.2.1 v0 6 9 kv0 (by decide) (by decide)).trans hu9_1
      have k44 := (f_I37.1 _ _ ku10).1
      have k45 := (f_I37.1 _ _ kv0).1
      have e46 := (f_I37.2.1 v0 6 10 kv0 (by decide) (by decide)).trans hu10_1
      have u47 : (I37 v0 15).toInt = (I v0 15).toInt := by rw [f_I37.2.2.1 v0 6 15 kv0 (by decide) (by decide)]
      obtain ⟨p36_0, p36_1⟩ := p36
      have ro_I37 : RO2 u9 u10 Z0 I0 I37 := RO2.trans q_I.1 ro_I (RO2.b p36_1)
      have t49 : 0 ≤ (I37 v0 15).toInt ∧ (I37 v0 15).toInt ≤ 24 := w_I37.fld 6 15 k40 (by decide)
      intro x50 ex50
      have rx50 := i_rng x50
      first | (have tx50 : x50.toInt = ((I37 v0 15).toInt - (1)) := by (rw [ex50]; exact (i_sub rfl (show (1 : Int32).toInt = 1 from rfl) (by omega) (by omega)))) | (have tx50 : x50.toInt = ((I37 v0 15) - (1 : Int32)).toInt := by rw [ex50])
      exact ⟨(x50.toInt + 1).toNat + 1, l_X6_survey_L48 w0 v0 kv0_0 u9 hu9 u10 hu10   hQ   _ x50 Z39 I37 L38 w_I37 bd_Z39 q_I37 cp_Z39   (by refine ⟨?_, ?_, ?_⟩; (omega); (omega); exact ro_I37)  (by omega)⟩
    · skip
      first | (have t51 : ¬ ((I v0 15).toInt < v1.toInt) := (not_congr (i_lt rfl rfl)).mp c31) | (have t51 : ¬ ((I v0 15).toInt < v1.toInt) := (not_congr (i_lt rfl rfl)).mp c31) | skip
      intro b52 eb52
      obtain ⟨x53, ex53, kb52, lb52⟩ := sh_f w_I.1 kv0 (j := 8) (k := 14) (m := 25) rfl
      cases eb52.symm.trans ex53
      refine s_X6_leastEffortFrom w_I v0 v1 kv0  (by omega) (fun r54  => ?_)
      have rr54 := i_rng r54
      have o55 : vp_in v1 25 := vi_of rfl (by omega) (by omega)
      refine ⟨o55, ?_⟩
      intro I56 eI56
      have w_I56 : WD Z I56 := by rw [eI56]; exact WD_putA w_I 6 8 kv0 eb52 kb52 rfl rfl (by decide) trivial
      have f_I56 : FR [(6, 8)] Z I Z I56 := by rw [eI56]; exact FR_upA w_I.2.1 kv0 eb52 kb52 rfl rfl List.mem_cons_self
      have q_I56 : FR Ws_X6_survey Z0 I0 Z I56 := q_I.trans w0.1 w0.2.1 (f_I56.mono (by decide))
      have ro_I56 : RO2 u9 u10 Z0 I0 I56 := RO2.trans q_I.1 ro_I (RO2.fr f_I56 (by decide))
      have u57 : (I56 u9 3).toInt = (I u9 3).toInt := by rw [f_I56.2.2.1 u9 7 3 ku9 (by decide) (by decide)]
      have u58 : (I56 u10 3).toInt = (I u10 3).toInt := by rw [f_I56.2.2.1 u10 7 3 ku10 (by decide) (by decide)]
      have u59 : (I56 v0 15).toInt = (I v0 15).toInt := by rw [f_I56.2.2.1 v0 6 15 kv0 (by decide) (by decide)]
      intro x60 ex60
      have rx60 := i_rng x60
      first | (have tx60 : x60.toInt = v1.toInt + (1) := by (rw [ex60]; exact (i_add rfl (show (1 : Int32).toInt = 1 from rfl) (by omega) (by omega)))) | skip
      exact ih x60 Z I56 L w_I56 bd_Z q_I56 cp_Z   (by refine ⟨?_, ?_⟩; (omega); exact ro_I56)  (by omega)
set_option maxHeartbeats 4000000 in
set_option maxRecDepth 100000 in
theorem s_X6_survey {B : Nat × Nat} {T : Nat} {Z : jZ} {I : jI} {L : jL} (w_I : WD Z I) (bd_Z : BUD B Z T) (v0 : Nat) (kv0 : jk Z v0 6) (u9 : Nat) (hu9 : jr Z v0 9 = some u9) (u10 : Nat) (hu10 : jr Z v0 10 = some u10) {Q : jZ → jI → jL → Prop} (hQ : ∀  (Z' : jZ) (I' : jI) (L' : jL), WD Z' I' → BUD B Z' T → FR Ws_X6_survey Z I Z' I' → CP Z Z' → ((I' u9 3).toInt ≤ 1 ∧ RO2 u9 u10 Z I I') → Q Z' I' L') : f_X6_survey B v0 Z I L Q := by
  unfold f_X6_survey
  have q_I : FR Ws_X6_survey Z I Z I := FR.rf
  have ro_I : RO2 u9 u10 Z I I := RO2.rf
  have cp_Z : CP Z Z := CP.rf
  have ku9 : jk Z u9 7 := by obtain ⟨b9, e9, k9⟩ := sh_o w_I.1 kv0 (j := 9) (k := 7) rfl; cases hu9.symm.trans e9; exact k9
  have ku10 : jk Z u10 7 := by obtain ⟨b9, e9, k9⟩ := sh_o w_I.1 kv0 (j := 10) (k := 7) rfl; cases hu10.symm.trans e9; exact k9
  have t61 : (0 : Int32).toInt = 0 := rfl
  exact ⟨(25 - (0 : Int32).toInt).toNat + 1, l_X6_survey_L2 w_I v0 kv0 u9 hu9 u10 hu10   hQ   _ (0 : Int32) Z I L w_I bd_Z q_I cp_Z   (by refine ⟨?_, ?_⟩; (omega); exact ro_I)  (by omega)⟩
end
