/-! ===== Rows grow ===== -/
def klen (Z : jZ) (a : Nat) : Nat := match jr Z a 0 with
  | some b => jlen Z b
  | none => 0
/-- how often rows may still be doubled, in pieces of 64 -/
noncomputable def potc (Z : jZ) : Nat := (Z.1.map (fun a => if Z.2.1 a = 7 then (capN Z a - klen Z a) / 64 else 0)).sum
/-- what is left of the bounds suffices for all rows, and for T pilgrims more -/
def BUD (B : Nat × Nat) (Z : jZ) (T : Nat) : Prop := jcz Z + potc Z + T * 4121 ≤ B.1 ∧ jsz Z + 128 * potc Z + T * 524632 ≤ B.2
def CP (Z Z' : jZ) : Prop := ∀ x, jk Z x 7 → capN Z' x = capN Z x
theorem CP.rf {Z : jZ} : CP Z Z := fun _ _ => rfl
theorem CP.trans {Z Z' Z'' : jZ} (hx : jext Z Z') (h : CP Z Z') (h' : CP Z' Z'') : CP Z Z'' := fun x hk => (h' x (hx x 7 hk).1).trans (h x hk)
theorem sum_one {l : List Nat} {f g : Nat → Nat} {a : Nat} (hn : l.Nodup) (ha : a ∈ l) (h : ∀ x ∈ l, x ≠ a → f x = g x) : (l.map f).sum + g a = (l.map g).sum + f a := by
  induction l with
  | nil => exact absurd ha List.not_mem_nil
  | cons b l ih =>
    obtain ⟨hb, hn⟩ := List.nodup_cons.mp hn
    rw [List.map_cons, List.map_cons, List.sum_cons, List.sum_cons]
    by_cases e : b = a
    · subst e
      have : (l.map f) = (l.map g) := List.map_congr_left (fun x hx => h x (List.mem_cons_of_mem _ hx) (fun q => hb (q ▸ hx)))
      rw [this]; omega
    · have h1 := ih hn ((List.mem_cons.mp ha).resolve_left (fun q => e q.symm)) (fun x hx => h x (List.mem_cons_of_mem _ hx))
      have h2 := h b List.mem_cons_self e
      omega
theorem pw_64 {n : Nat} (h : pw n) : n % 64 = 0 ∧ 64 ≤ n := by
  unfold pw at h; omega
theorem pw_2 {n : Nat} (h : pw n) (hn : n < 1048576) : pw (2 * n) := by
  unfold pw at h ⊢; omega
theorem pw_17 {n : Nat} (h : pw n) (hn : n ≤ 98304) : 2 * n ≤ 131072 := by
  unfold pw at h; omega
theorem capN_cases (Z : jZ) (a : Nat) : capN Z a = 1048576 ∨ capN Z a = 131072 := by
  unfold capN
  split <;> simp
/-- new keys for a Rows -/
theorem WD_grow {B : Nat × Nat} {T : Nat} {Z : jZ} {I : jI} {a q n b : Nat} (w : WD Z I) (bd : BUD B Z T) (ha : jk Z a 7) (hq : q ∉ Z.1) (eb : jr Z a 0 = some b) (hn : n = 2 * jlen Z b) (hcap : n ≤ capN Z a) (hlt : jlen Z b < 1048576) :
    WD (jpR (jnw Z q 15 n) a 0 (some q)) (jz0 I q) ∧ BUD B (jpR (jnw Z q 15 n) a 0 (some q)) T ∧ FR W7 Z I (jpR (jnw Z q 15 n) a 0 (some q)) (jz0 I q) ∧ CP Z (jpR (jnw Z q 15 n) a 0 (some q)) := by
  obtain ⟨b0, b1, b2, b4, b5, e0, e1, e2, e4, e5, k0, k1, k2, k4, k5, n1, n2, n4, n5, n12, n14, n15, n24, n25, n45, r1, r2, r3, r4, r5, r6⟩ := rows_at w ha
  cases eb.symm.trans e0
  obtain ⟨Z', hZ'⟩ : ∃ Z', Z' = jpR (jnw Z q 15 n) a 0 (some q) := ⟨_, rfl⟩
  rw [← hZ']
  have haq : a ≠ q := fun e => hq (e ▸ ha.1)
  have m1 : Z'.1 = Z.1 ++ [q] := by rw [hZ']
  have kq : Z'.2.1 q = 15 := by rw [hZ']; exact va_up_self _ _ _
  have ko : ∀ x, x ≠ q → Z'.2.1 x = Z.2.1 x := fun x hx => by rw [hZ']; exact va_up_ne _ _ hx
  have lq : jlen Z' q = n := by rw [hZ']; exact va_up_self _ _ _
  have lo : ∀ x, x ≠ q → jlen Z' x = jlen Z x := fun x hx => by rw [hZ']; exact va_up_ne _ _ hx
  have ra : jr Z' a 0 = some q := by
    rw [hZ']
    show va_up _ a (va_up _ 0 (some q)) a 0 = some q
    rw [va_up_self, va_up_self]
  have ro : ∀ x j, x ≠ q → ¬ (x = a ∧ j = 0) → jr Z' x j = jr Z x j := fun x j hx hn => by
    rw [hZ']
    show va_up (va_up Z.2.2.2 q fun _ => none) a (va_up ((va_up Z.2.2.2 q fun _ => none) a) 0 (some q)) x j = Z.2.2.2 x j
    by_cases e : x = a
    · subst e
      rw [va_up_self, va_up_ne _ _ (fun h => hn ⟨rfl, h⟩), va_up_ne _ _ hx]
    · rw [va_up_ne _ _ e, va_up_ne _ _ hx]
  have rq : ∀ j, jr Z' q j = none := fun j => by
    rw [hZ']
    show va_up (va_up Z.2.2.2 q fun _ => none) a (va_up ((va_up Z.2.2.2 q fun _ => none) a) 0 (some q)) q j = none
    rw [va_up_ne _ _ haq.symm, va_up_self]
  have nq : ∀ x c, jk Z x c → x ≠ q := fun x c hk e => hq (e ▸ hk.1)
  have up : ∀ x c, jk Z x c → jk Z' x c := fun x c hk => ⟨by rw [m1]; exact List.mem_append_left _ hk.1, by rw [ko x (nq x c hk)]; exact hk.2⟩
  have dn : ∀ x c, jk Z' x c → x ≠ q → jk Z x c := fun x c hk hx => ⟨by
      have := hk.1
      rw [m1] at this
      rcases List.mem_append.mp this with h | h
      · exact h
      · exact absurd (List.mem_singleton.mp h) hx, by rw [← ko x hx]; exact hk.2⟩
  have Io : ∀ x, x ≠ q → jz0 I q x = I x := fun x hx => va_up_ne _ _ hx
  have hx : jext Z Z' := fun x c hk => ⟨up x c hk, lo x (nq x c hk)⟩
  have inP : ∀ x c j y, jk Z x c → jr Z x j = some y → y ≠ q := fun x c j y hk e h => hq (h ▸ w.2.1.2.1 x c j y hk e)
  have hcp : ∀ x, capN Z' x = capN Z x ∨ x = q := fun x => by
    by_cases hxq : x = q
    · exact Or.inr hxq
    · left
      have : (∃ r, jk Z' r 0 ∧ jr Z' r 0 = some x) ↔ (∃ r, jk Z r 0 ∧ jr Z r 0 = some x) := by
        constructor
        · rintro ⟨r, h1, h2⟩
          have hr : r ≠ q := fun e => by
            subst e
            rw [rq] at h2; cases h2
          have h1' := dn r 0 h1 hr
          have hra : r ≠ a := fun e => by
            subst e
            have := h1'.2.symm.trans ha.2
            omega
          exact ⟨r, h1', by rw [← ro r 0 hr (fun h => hra h.1)]; exact h2⟩
        · rintro ⟨r, h1, h2⟩
          have hra : r ≠ a := fun e => by
            subst e
            have := h1.2.symm.trans ha.2
            omega
          exact ⟨r, up r 0 h1, by rw [ro r 0 (nq r 0 h1) (fun h => hra h.1)]; exact h2⟩
      unfold capN
      by_cases hh : ∃ r, jk Z r 0 ∧ jr Z r 0 = some x
      · rw [if_pos hh, if_pos (this.mpr hh)]
      · rw [if_neg hh, if_neg (fun h => hh (this.mp h))]
  have sh' : SH Z' := by rw [hZ']; exact SH_keys (SH_nwa w.1 hq (by decide) (by decide)) ((jext_nw hq) a 7 ha).1 jk_nw
  have uq' : UQ Z' := by
    refine ⟨?_, fun x c j y hk e => ?_, fun x c j x' c' j' y hk hk' e e' hs hs' => ?_⟩
    · rw [m1]
      exact List.nodup_append.mpr ⟨w.2.1.1, List.nodup_cons.mpr ⟨List.not_mem_nil, List.nodup_nil⟩, fun x hx y hy h => hq (by rw [← List.mem_singleton.mp hy, ← h]; exact hx)⟩
    · rw [m1]
      by_cases hxq : x = q
      · subst hxq; rw [rq] at e; cases e
      · by_cases h0 : x = a ∧ j = 0
        · obtain ⟨rfl, rfl⟩ := h0
          rw [ra] at e; cases e
          exact List.mem_append_right _ (List.mem_singleton.mpr rfl)
        · rw [ro x j hxq h0] at e
          exact List.mem_append_left _ (w.2.1.2.1 x c j y (dn x c hk hxq) e)
    · have hxq : x ≠ q := fun h => by subst h; rw [rq] at e; cases e
      have hxq' : x' ≠ q := fun h => by subst h; rw [rq] at e'; cases e'
      have d := dn x c hk hxq
      have d' := dn x' c' hk' hxq'
      by_cases h0 : x = a ∧ j = 0
      · by_cases h0' : x' = a ∧ j' = 0
        · exact ⟨h0.1.trans h0'.1.symm, h0.2.trans h0'.2.symm⟩
        · obtain ⟨rfl, rfl⟩ := h0
          rw [ra] at e; cases e
          rw [ro x' j' hxq' h0'] at e'
          exact absurd rfl (inP x' c' j' _ d' e')
      · by_cases h0' : x' = a ∧ j' = 0
        · obtain ⟨rfl, rfl⟩ := h0'
          rw [ra] at e'; cases e'
          rw [ro x j hxq h0] at e
          exact absurd rfl (inP x c j _ d e)
        · rw [ro x j hxq h0] at e
          rw [ro x' j' hxq' h0'] at e'
          exact w.2.1.2.2 x c j x' c' j' y d d' e e' hs hs'
  have ok' : OK Z' (jz0 I q) := by
    refine ⟨fun x c j hk hc => ?_, fun x c j y hk e k hs i => ?_⟩
    · have hxq : x ≠ q := fun h => by
        subst h
        have := kq.symm.trans hk.2
        omega
      rw [Io x hxq]
      exact w.2.2.1.1 x c j (dn x c hk hxq) hc
    · have hxq : x ≠ q := fun h => by subst h; rw [rq] at e; cases e
      have hyq : y ≠ q := fun h => by subst h; rw [kq] at k; cases k
      have h0 : ¬ (x = a ∧ j = 0) := fun h => by
        obtain ⟨rfl, rfl⟩ := h
        rw [ra] at e; cases e
        exact hyq rfl
      rw [ro x j hxq h0] at e
      rw [Io y hyq]
      rw [ko y hyq] at k
      exact w.2.2.1.2 x c j y (dn x c hk hxq) e k hs i
  have ri' : RI Z' (jz0 I q) := by
    intro x c0 c1 c2 c4 hk g0 g1 g2 g4
    have hxq : x ≠ q := fun h => by subst h; rw [rq] at g0; cases g0
    have d := dn x 7 hk hxq
    rw [ro x 1 hxq (fun h => by omega)] at g1
    rw [ro x 2 hxq (fun h => by omega)] at g2
    rw [ro x 4 hxq (fun h => by omega)] at g4
    have i1 := Io c1 (inP x 7 1 c1 d g1)
    have i2 := Io c2 (inP x 7 2 c2 d g2)
    have i4 := Io c4 (inP x 7 4 c4 d g4)
    have cx := (hcp x).resolve_right hxq
    unfold RI1
    rw [i1, i2, i4, Io x hxq, cx]
    by_cases hxa : x = a
    · subst hxa
      rw [ra] at g0; cases g0
      cases e1.symm.trans g1; cases e2.symm.trans g2; cases e4.symm.trans g4
      have := pw_2 r2 hlt
      have h20 : 2 * jlen Z b ≤ 1048576 := by unfold pw at this; omega
      rw [lq, hn]
      rw [hn] at hcap
      exact ⟨by omega, this, hcap, r4, r5, r6⟩
    · rw [ro x 0 hxq (fun h => hxa h.1)] at g0
      have old := w.2.2.2 x c0 c1 c2 c4 d g0 g1 g2 g4
      unfold RI1 at old
      rw [lo c0 (inP x 7 0 c0 d g0)]
      exact old
  have fr' : FR W7 Z I Z' (jz0 I q) := by
    refine ⟨hx, fun x c j hk h7 h12 => ?_, fun x c j hk hc hn => by rw [Io x (nq x c hk)], fun x c j y hk e k hs hn => Io y (inP x c j y hk e)⟩
    refine ro x j (nq x c hk) (fun h => h7 ⟨?_, h.2⟩)
    exact hk.2.symm.trans (by rw [h.1]; exact ha.2)
  refine ⟨⟨sh', uq', ok', ri'⟩, ?_, fr', fun x hk => (hcp x).resolve_right (nq x 7 hk)⟩
  -- the bounds
  have ka : klen Z a = jlen Z b := by unfold klen; rw [eb]
  have ka' : klen Z' a = n := by unfold klen; rw [ra]; exact lq
  have hp : potc Z' + (capN Z a - jlen Z b) / 64 = potc Z + (capN Z a - n) / 64 := by
    unfold potc
    rw [m1, List.map_append, List.sum_append]
    have : (List.map (fun a => if Z'.2.1 a = 7 then (capN Z' a - klen Z' a) / 64 else 0) [q]).sum = 0 := by simp [kq]
    rw [this, Nat.add_zero]
    have h := sum_one (l := Z.1) (f := fun a => if Z'.2.1 a = 7 then (capN Z' a - klen Z' a) / 64 else 0) (g := fun a => if Z.2.1 a = 7 then (capN Z a - klen Z a) / 64 else 0) (a := a) w.2.1.1 ha.1 (fun x hxm hne => by
      have hxq : x ≠ q := fun e => hq (e ▸ hxm)
      simp only [ko x hxq, (hcp x).resolve_right hxq]
      by_cases h7 : Z.2.1 x = 7
      · rw [if_pos h7, if_pos h7]
        have : klen Z' x = klen Z x := by
          unfold klen
          rw [ro x 0 hxq (fun h => hne h.1)]
          obtain ⟨y, ey, ky⟩ := sh_o w.1 (show jk Z x 7 from ⟨hxm, h7⟩) (j := 0) (k := 15) rfl
          rw [ey]
          exact lo y (inP x 7 0 y ⟨hxm, h7⟩ ey)
        rw [this]
      · rw [if_neg h7, if_neg h7])
    simp only [ko a haq, ha.2, if_true, (hcp a).resolve_right haq, ka, ka'] at h
    exact h
  have c1 : jcz Z' = jcz Z + 1 := by unfold jcz; rw [m1]; simp
  have c2 : jsz Z' = jsz Z + n := by
    rw [hZ']
    show jsz (jnw Z q 15 n) = _
    rw [jsz_nw hq]; rfl
  obtain ⟨g1, g2⟩ := bd
  have p64 := pw_64 r2
  have pc : capN Z a % 64 = 0 := by rcases capN_cases Z a with h | h <;> rw [h]
  unfold BUD
  rw [c1, c2]
  constructor <;> omega
theorem RO.fr {a : Nat} {W : List (Nat × Nat)} {Z Z' : jZ} {I I' : jI} (f : FR W Z I Z' I') (hw : (7, 3) ∉ W) : RO a Z I I' := fun x hk _ => f.2.2.1 x 7 3 hk (by decide) hw
theorem BUD.jin {B : Nat × Nat} {Z : jZ} {T : Nat} (h : BUD B Z T) : jin B Z := ⟨by have := h.1; omega, by have := h.2; omega⟩
set_option maxHeartbeats 1000000 in
theorem s_X7_push {B : Nat × Nat} {T : Nat} {Z : jZ} {I : jI} {L : jL} (w_I : WD Z I) (bd : BUD B Z T) (v0 : Nat) (v1 : Int32) (v2 : Int64) (kv0 : jk Z v0 7) (p0 : 0 ≤ v1.toInt ∧ v1.toInt ≤ 24) (p1 : FI Z I v0 v1.toNatClampNeg) (p2 : capN Z v0 = 1048576 ∨ (I v0 3).toInt ≤ 98304) {Q : jZ → jI → jL → Prop}
    (hQ : ∀ (Z' : jZ) (I' : jI) (L' : jL), WD Z' I' → BUD B Z' T → FR W7 Z I Z' I' → CP Z Z' → ((I v0 3).toInt ≤ (I' v0 3).toInt ∧ (I' v0 3).toInt ≤ (I v0 3).toInt + 1 ∧ FI Z' I' v0 v1.toNatClampNeg ∧ RO v0 Z I I') → Q Z' I' L') : f_X7_push B v0 v1 v2 Z I L Q := by
  have z0 : (0 : Int32).toInt = 0 := rfl
  have z1 : (1 : Int32).toInt = 1 := rfl
  have vi1 : vp_in v1 25 := vi_of rfl (by omega) (by omega)
  have hp : v1.toNatClampNeg < 25 := i_clamp p0.1 (by omega)
  -- the second half, in any pool
  have half : ∀ (Z1 : jZ) (I1 : jI) (L1 : jL), WD Z1 I1 → BUD B Z1 T → FR W7 Z I Z1 I1 → CP Z Z1 → jk Z1 v0 7 → I1 v0 3 = I v0 3 → FI Z1 I1 v0 v1.toNatClampNeg → (∀ x, jk Z x 7 → x ≠ v0 → I1 x 3 = I x 3) → f_X7_push_b38 B Q v0 v1 v2 Z1 I1 L1 := by
    intro Z1 I1 L1 w b f cp k e3 fi ot
    obtain ⟨b0, b1, b2, b4, b5, e0, e1, e2, e4, e5, k0, k1, k2, k4, k5, n1, n2, n4, n5, n12, n14, n15, n24, n25, n45, r1, r2, r3, r4, r5, r6⟩ := rows_at w k
    unfold f_X7_push_b38
    have no : Q Z1 I1 L1 := hQ Z1 I1 L1 w b f cp ⟨by rw [e3]; omega, by rw [e3]; omega, fi, ot⟩
    intro b' h; cases e0.symm.trans h
    refine ⟨fun _ => no, fun c => ⟨fun _ => no, fun _ => ⟨fun _ => no, fun _ => ?_⟩⟩⟩
    have hc := (not_congr (i_le (i_nI (by omega)) rfl)).mp c
    intro b' h; cases e0.symm.trans h
    refine ⟨vi_of rfl (by omega) (by omega), fun L7 q7 I8 q8 => ?_⟩
    intro b' h; cases e2.symm.trans h
    refine ⟨vi1, vi1, fun I9 q9 => ?_⟩
    have fb := fi b1 e1
    have g4 := r4 _ hp
    have t3 : (I9 v0 3).toInt = (I1 v0 3).toInt + 1 := by
      rw [q9, jpI_ne n2, q8, jpI_at]
      exact i_add rfl z1 (by omega) (by omega)
    have a8 : I9 v0 8 = I1 v0 8 := by rw [q9, jpI_ne n2, q8, jpI_off (by decide)]
    have a9 : I9 v0 9 = I1 v0 9 := by rw [q9, jpI_ne n2, q8, jpI_off (by decide)]
    have c1 : I9 b1 = I1 b1 := by rw [q9, jpI_ne n12, q8, jpI_ne n1.symm]
    have c4 : I9 b4 = I1 b4 := by rw [q9, jpI_ne n24.symm, q8, jpI_ne n4.symm]
    have hz : (I1 b2 v1.toNatClampNeg).toInt ≤ (I1 v0 3).toInt := by
      by_cases q : 0 < (I1 b2 v1.toNatClampNeg).toInt
      · have := g4.2 q; omega
      · omega
    have c2 : ∀ p, (I9 b2 p).toInt = if p = v1.toNatClampNeg then (I1 b2 v1.toNatClampNeg).toInt + 1 else (I1 b2 p).toInt := fun p => by
      rw [q9]
      by_cases q : p = v1.toNatClampNeg
      · rw [if_pos q, q, jpI_at, q8, jpI_ne n2.symm]
        exact i_add rfl z1 (by omega) (by omega)
      · rw [if_neg q, jpI_off q, q8, jpI_ne n2.symm]
    obtain ⟨g1', g2', g3'⟩ := WD_rows (I' := I9) w k e0 e1 e2 e4 e5 (fun x x0 x1 x2 x4 x5 => by rw [q9, jpI_ne x2, q8, jpI_ne x0]) (fun j j3 j8 j9 => by rw [q9, jpI_ne n2, q8, jpI_off j3]) (by
      unfold RI1
      rw [t3, a8, a9, c1, c4]
      refine ⟨by omega, r2, r3, fun p hp => ?_, r5, r6⟩
      rw [c2]
      by_cases q : p = v1.toNatClampNeg
      · rw [if_pos q, q]
        by_cases q2 : 0 < (I1 b2 v1.toNatClampNeg).toInt
        · have := g4.2 q2; omega
        · omega
      · rw [if_neg q]
        have := r4 p hp
        refine ⟨this.1, fun h => ?_⟩
        have := this.2 h
        omega)
    refine hQ Z1 I9 L7 g1' b (FR.trans w_I.1 w_I.2.1 f g2') cp ⟨by rw [t3, e3]; omega, by rw [t3, e3]; omega, fun b' hb => ?_, fun x hk hn => by rw [g3' x (f.1 x 7 hk).1 hn]; exact ot x hk hn⟩
    cases e1.symm.trans hb
    rw [c1, t3]
    omega
  obtain ⟨b0, b1, b2, b4, b5, e0, e1, e2, e4, e5, k0, k1, k2, k4, k5, n1, n2, n4, n5, n12, n14, n15, n24, n25, n45, r1, r2, r3, r4, r5, r6⟩ := rows_at w_I kv0
  have same : f_X7_push_b38 B Q v0 v1 v2 Z I L := half Z I L w_I bd FR.rf CP.rf kv0 rfl p1 (fun _ _ _ => rfl)
  unfold f_X7_push
  intro b h; cases e0.symm.trans h
  refine ⟨fun _ => same, fun c => ⟨fun _ => same, fun c2 => ?_⟩⟩
  have hc : (I v0 3).toInt = (jlen Z b0 : Int) := (i_eq rfl (i_nI (by omega))).mp c
  have hc2 := (not_congr (i_le (show (1048576 : Int32).toInt = 1048576 from rfl) rfl)).mp c2
  intro b h; cases e0.symm.trans h
  have t2 : ((I v0 3) * (2 : Int32)).toInt = (I v0 3).toInt * 2 := i_mul rfl (show (2 : Int32).toInt = 2 from rfl) (by omega) (by omega)
  have tn := i_nat t2 (by omega)
  have hcap : 2 * jlen Z b0 ≤ capN Z v0 := by
    rcases p2 with h | h
    · rw [h]
      have := pw_2 r2 (by omega)
      unfold pw at this
      omega
    · have := pw_17 r2 (by omega)
      rcases capN_cases Z v0 with h' | h' <;> omega
  have hpot : (capN Z v0 - jlen Z b0) / 64 ≤ potc Z := by
    have h := sum_one (l := Z.1) (f := fun a => if Z.2.1 a = 7 then (capN Z a - klen Z a) / 64 else 0) (g := fun x => if x = v0 then 0 else (if Z.2.1 x = 7 then (capN Z x - klen Z x) / 64 else 0)) (a := v0) w_I.2.1.1 kv0.1 (fun x _ hne => by simp [hne])
    have ka : klen Z v0 = jlen Z b0 := by unfold klen; rw [e0]
    simp only [if_true, kv0.2, ka] at h
    unfold potc
    omega
  have p64 := pw_64 r2
  have pc : capN Z v0 % 64 = 0 := by rcases capN_cases Z v0 with h | h <;> rw [h]
  obtain ⟨bd1, bd2⟩ := id bd
  unfold f_J7_copyOf_c38d5
  refine ⟨fun _ => ⟨⟨(not_congr (i_lt t2 z0)).mpr (by omega), by omega, by omega, by omega⟩, ?_⟩, fun c => ?_⟩
  · intro q hq Z4 eZ I5 eI L6 eL
    have hb4 : jlen Z4 b0 = jlen Z b0 := by rw [eZ]; exact (jext_nw hq b0 15 k0).2
    have hq4 : jlen Z4 q = ((I v0 3) * (2 : Int32)).toNatClampNeg := by rw [eZ]; exact jlen_nw
    have cond : ¬ ((I v0 3) * (2 : Int32)) < nI (jlen Z4 b0) := (not_congr (i_lt t2 (i_nI (by omega)))).mpr (by rw [hb4]; omega)
    rw [if_neg cond]
    have tq := i_nat (x := nI (jlen Z4 b0)) (i_nI (by omega)) (by omega)
    have t00 := i_nat (x := (0 : Int32)) z0 (by omega)
    refine ⟨⟨by decide, by decide, (not_congr (i_lt (i_nI (by omega)) z0)).mpr (by omega), by omega, by rw [hq4]; omega⟩, fun L9 e9 => ?_⟩
    dsimp only
    refine ⟨fun h => (by cases h), fun b h Z27 e27 => ?_⟩
    cases h
    obtain ⟨g1, g2, g3, g4⟩ := WD_grow (n := ((I v0 3) * (2 : Int32)).toNatClampNeg) w_I bd kv0 hq e0 (by omega) (by omega) (by omega)
    rw [← eZ, ← e27] at g1 g2 g3 g4
    rw [← eI] at g1 g3
    have Io : ∀ x, x ≠ q → I5 x = I x := fun x hx => by rw [eI]; exact va_up_ne _ _ hx
    have vq : v0 ≠ q := fun e => hq (e ▸ kv0.1)
    refine half Z27 I5 L9 g1 g2 g3 g4 (g3.1 v0 7 kv0).1 (by rw [Io v0 vq]) (fun b' hb => ?_) (fun x hk hn => by rw [Io x (fun e => hq (e ▸ hk.1))])
    rw [g3.2.1 v0 7 1 kv0 (by omega) (by omega)] at hb
    cases e1.symm.trans hb
    rw [Io b1 (fun e => hq (e ▸ k1.1)), Io v0 vq]
    exact p1 b1 e1
  · have := (i_eq t2 (i_nI (by omega))).mp c
    omega
theorem s_X7_begin {B : Nat × Nat} {T : Nat} {Z : jZ} {I : jI} {L : jL} (w_I : WD Z I) (bd : BUD B Z T) (v0 : Nat) (v1 : Int32) (v2 : Int64) (kv0 : jk Z v0 7) (p0 : 0 ≤ v1.toInt ∧ v1.toInt ≤ 24) {Q : jZ → jI → jL → Prop}
    (hQ : ∀ (Z' : jZ) (I' : jI) (L' : jL), WD Z' I' → BUD B Z' T → FR W7 Z I Z' I' → CP Z Z' → ((I' v0 3).toInt ≤ 1 ∧ RO v0 Z I I') → Q Z' I' L') : f_X7_begin B v0 v1 v2 Z I L Q := by
  obtain ⟨b0, b1, b2, b4, b5, e0, e1, e2, e4, e5, k0, k1, k2, k4, k5, n1, n2, n4, n5, n12, n14, n15, n24, n25, n45, r1, r2, r3, r4, r5, r6⟩ := rows_at w_I kv0
  have z0 : (0 : Int32).toInt = 0 := rfl
  have l2 : jlen Z b2 = 25 := by obtain ⟨b, e, -, l⟩ := sh_f w_I.1 kv0 (j := 2) (k := 14) (m := 25) rfl; cases e2.symm.trans e; exact l
  unfold f_X7_begin
  intro b h; cases e2.symm.trans h
  refine fill_raw (by omega) (fun I4 h1 h2 I8 q8 => ?_)
  have a3 : I8 v0 3 = 0 := by rw [q8, jpI_at]
  have ao : ∀ j, j ≠ 3 → I8 v0 j = I v0 j := fun j hj => by rw [q8, jpI_off hj, h1 v0 n2]
  have bo : ∀ x, x ≠ v0 → x ≠ b2 → I8 x = I x := fun x x0 x2 => by rw [q8, jpI_ne x0, h1 x x2]
  have c2 : ∀ p, p < 25 → I8 b2 p = 0 := fun p hp => by rw [q8, jpI_ne n2.symm, h2 p (by omega)]
  obtain ⟨g1, g2, g3⟩ := WD_rows (I' := I8) w_I kv0 e0 e1 e2 e4 e5 (fun x x0 x1 x2 x4 x5 => bo x x0 x2) (fun j j3 j8 j9 => ao j j3) (by
    unfold RI1
    rw [a3, ao 8 (by decide), ao 9 (by decide), bo b1 n1.symm n12, bo b4 n4.symm n24.symm, z0]
    refine ⟨by omega, r2, r3, fun p hp => ?_, r5, r6⟩
    rw [c2 p hp, z0]
    omega)
  refine s_X7_start g1 v0 v1 kv0 p0 (fun I11 L12 w2 f2 p2 => ?_)
  refine s_X7_push w2 bd v0 v1 v2 kv0 p0 p2.2.1 (Or.inr (by rw [p2.1, a3, z0]; omega)) (fun Z' I' L' w3 b3 f3 c3 p3 => ?_)
  refine hQ Z' I' L' w3 b3 (FR.trans w_I.1 w_I.2.1 g2 (FR.trans w_I.1 w_I.2.1 f2 f3)) c3 ⟨?_, RO.trans jext_rfl g3 (RO.trans jext_rfl p2.2.2 p3.2.2.2)⟩
  have := p3.2.1
  rw [p2.1, a3, z0] at this
  omega
/-- all Rows but two are filled as they were -/
def RO2 (a b : Nat) (Z : jZ) (I I' : jI) : Prop := ∀ x, jk Z x 7 → x ≠ a → x ≠ b → I' x 3 = I x 3
theorem RO2.rf {a b : Nat} {Z : jZ} {I : jI} : RO2 a b Z I I := fun _ _ _ _ => rfl
theorem RO2.trans {a b : Nat} {Z Z' : jZ} {I I' I'' : jI} (hx : jext Z Z') (h : RO2 a b Z I I') (h' : RO2 a b Z' I' I'') : RO2 a b Z I I'' := fun x hk hn hm => (h' x (hx x 7 hk).1 hn hm).trans (h x hk hn hm)
theorem RO2.a {a b : Nat} {Z : jZ} {I I' : jI} (h : RO a Z I I') : RO2 a b Z I I' := fun x hk hn _ => h x hk hn
theorem RO2.b {a b : Nat} {Z : jZ} {I I' : jI} (h : RO b Z I I') : RO2 a b Z I I' := fun x hk _ hm => h x hk hm
theorem RO2.fr {a b : Nat} {W : List (Nat × Nat)} {Z Z' : jZ} {I I' : jI} (f : FR W Z I Z' I') (hw : (7, 3) ∉ W) : RO2 a b Z I I' := fun x hk _ _ => f.2.2.1 x 7 3 hk (by decide) hw
/-- how far the rising rows of the pilgrims are filled: those below i, and the others -/
def RB (Z : jZ) (I : jI) (A : Nat) (n : Int) (i : Nat) (M1 M0 : Int) : Prop := ∀ (k : Nat) (p r b : Nat), (k : Int) < n → jr Z A k = some p → jr Z p 8 = some r → jr Z r 9 = some b → (I b 3).toInt ≤ if k < i then M1 else M0
theorem RB.of {Z : jZ} {I : jI} {A : Nat} {n M1 : Int} (w : WD Z I) (hA : jk Z A 18) : RB Z I A n 0 M1 1048576 := by
  intro k p r b hk e1 e2 e3
  have kp := w.1.2.1 A hA k p e1
  obtain ⟨r', e2', kr⟩ := sh_o w.1 kp (j := 8) (k := 6) rfl
  cases e2.symm.trans e2'
  obtain ⟨b', e3', kb⟩ := sh_o w.1 kr (j := 9) (k := 7) rfl
  cases e3.symm.trans e3'
  have := rw3 w kb
  rw [if_neg (by omega)]
  omega
theorem RB.all {Z : jZ} {I : jI} {A i : Nat} {n M1 M0 : Int} (h : RB Z I A n i M1 M0) (hi : n ≤ (i : Int)) : RB Z I A n 0 0 M1 := by
  intro k p r b hk e1 e2 e3
  have := h k p r b hk e1 e2 e3
  rw [if_pos (by omega)] at this
  rw [if_neg (by omega)]
  exact this
theorem RB.start {Z : jZ} {I : jI} {A : Nat} {n M1 M0 : Int} (h : RB Z I A n 0 0 M0) : RB Z I A n 0 M1 M0 := by
  intro k p r b hk e1 e2 e3
  have := h k p r b hk e1 e2 e3
  rw [if_neg (by omega)] at this ⊢
  exact this
theorem RB.fr {W : List (Nat × Nat)} {Z Z' : jZ} {I I' : jI} {A i : Nat} {n M1 M0 : Int} (w : WD Z I) (hA : jk Z A 18) (f : FR W Z I Z' I') (hw : (7, 3) ∉ W) (h : RB Z I A n i M1 M0) : RB Z' I' A n i M1 M0 := by
  intro k p r b hk e1 e2 e3
  rw [f.2.1 A 18 k hA (by omega) (by omega)] at e1
  have kp := w.1.2.1 A hA k p e1
  rw [f.2.1 p 5 8 kp (by omega) (by omega)] at e2
  obtain ⟨r', e2', kr⟩ := sh_o w.1 kp (j := 8) (k := 6) rfl
  cases e2.symm.trans e2'
  rw [f.2.1 r 6 9 kr (by omega) (by omega)] at e3
  obtain ⟨b', e3', kb⟩ := sh_o w.1 kr (j := 9) (k := 7) rfl
  cases e3.symm.trans e3'
  rw [f.2.2.1 b 7 3 kb (by decide) hw]
  exact h k p r b hk e1 e2 e3
theorem RB.step {W : List (Nat × Nat)} {Z Z' : jZ} {I I' : jI} {A i p r u9 u10 : Nat} {n M1 M0 : Int} (w : WD Z I) (hA : jk Z A 18) (f : FR W Z I Z' I') (hp : jr Z A i = some p) (hr : jr Z p 8 = some r) (h9 : jr Z r 9 = some u9) (h10 : jr Z r 10 = some u10) (ro : RO2 u9 u10 Z I I') (hb : (I' u9 3).toInt ≤ M1) (h : RB Z I A n i M1 M0) : RB Z' I' A n (i + 1) M1 M0 := by
  have kp := w.1.2.1 A hA i p hp
  obtain ⟨_, q1, kr⟩ := sh_o w.1 kp (j := 8) (k := 6) rfl
  cases hr.symm.trans q1
  intro k p' r' b' hk e1 e2 e3
  rw [f.2.1 A 18 k hA (by omega) (by omega)] at e1
  have kp' := w.1.2.1 A hA k p' e1
  rw [f.2.1 p' 5 8 kp' (by omega) (by omega)] at e2
  obtain ⟨_, q2, kr'⟩ := sh_o w.1 kp' (j := 8) (k := 6) rfl
  cases e2.symm.trans q2
  rw [f.2.1 r' 6 9 kr' (by omega) (by omega)] at e3
  obtain ⟨_, q3, kb'⟩ := sh_o w.1 kr' (j := 9) (k := 7) rfl
  cases e3.symm.trans q3
  by_cases hki : k = i
  · subst hki
    cases hp.symm.trans e1
    cases hr.symm.trans e2
    cases h9.symm.trans e3
    rw [if_pos (by omega)]
    exact hb
  · have n9 : b' ≠ u9 := fun q => by
      subst q
      obtain ⟨rfl, -⟩ := w.2.1.2.2 r' 6 9 r 6 9 b' kr' kr e3 h9 rfl rfl
      obtain ⟨rfl, -⟩ := w.2.1.2.2 p' 5 8 p 5 8 r' kp' kp e2 hr rfl rfl
      exact hki (w.2.1.2.2 A 18 k A 18 i p' hA hA e1 hp rfl rfl).2
    have n10 : b' ≠ u10 := fun q => by
      subst q
      have := (w.2.1.2.2 r' 6 9 r 6 10 b' kr' kr e3 h10 rfl rfl).2
      omega
    rw [ro b' kb' n9 n10]
    have := h k p' r' b' hk e1 e2 e3
    by_cases q : k < i
    · rw [if_pos q] at this; rw [if_pos (by omega)]; exact this
    · rw [if_neg q] at this; rw [if_neg (by omega)]; exact this
theorem i_01 {x : Int32} {A : Int} (hx : x.toInt = A) (h : A = 0 ∨ A = 1) : x = 0 ∨ x = 1 := by
  rcases h with h | h
  · exact Or.inl ((i_eq hx rfl).mpr h)
  · exact Or.inr ((i_eq hx rfl).mpr h)
theorem RB.skip {Z : jZ} {I : jI} {A i : Nat} {n M1 M0 : Int} (h : RB Z I A n i M1 M0) (hn : jr Z A i = none) : RB Z I A n (i + 1) M1 M0 := by
  intro k p r b hk e1 e2 e3
  have hki : k ≠ i := fun q => by subst q; rw [hn] at e1; cases e1
  have := h k p r b hk e1 e2 e3
  by_cases q : k < i
  · rw [if_pos q] at this; rw [if_pos (by omega)]; exact this
  · rw [if_neg q] at this; rw [if_neg (by omega)]; exact this
theorem i_succ {x y : Int32} (h0 : 0 ≤ y.toInt) (h : x.toInt = y.toInt + 1) : x.toNatClampNeg = y.toNatClampNeg + 1 := by
  have h1 := i_nat (x := x) rfl (by omega)
  have h2 := i_nat (x := y) rfl h0
  omega
