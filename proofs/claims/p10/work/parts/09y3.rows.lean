theorem CW.cast {Zs Z : jZ} {Is I : jI} {U : List Nat} {x y z x' y' z' : Nat} (h : CW Zs Is Z I U x y z) (h1 : x = x') (h2 : y = y') (h3 : z = z') : CW Zs Is Z I U x' y' z' := by subst h1; subst h2; subst h3; exact h
theorem SW_go {Zs Zc Z Z' : jZ} {Is Ic I I' : jI} {U : List Nat} {h0 c x y z x' y' z' : Nat} {J : List Nat} (h : SW Zs Is Zc Ic U h0 c J Z I x y z) (hc : CW Zs Is Z' I' (h0 :: U) x' y' z') (hx : jext Z Z') (old : ∀ u ∈ Z.1, Z'.2.2.2 u = Z.2.2.2 u ∧ I' u = I u) : SW Zs Is Zc Ic U h0 c J Z' I' x' y' z' := by
  obtain ⟨h1, h2, h3, h4, h5, h6, h7⟩ := h
  refine ⟨hc, jext_trans h2 hx, fun u hu hne => ?_, (hx _ _ h4).1, h5, fun j hj => (congrFun (old h0 h4.1).1 j).trans (h6 j hj), fun j hj k' o e => ?_⟩
  · obtain ⟨o1, o2⟩ := old u (h2 u _ ⟨hu, rfl⟩).1.1
    exact ⟨o1.trans (h3 u hu hne).1, o2.trans (h3 u hu hne).2⟩
  · obtain ⟨b, g1, g2, g3, g4⟩ := h7 j hj k' o e
    exact ⟨b, (congrFun (old h0 h4.1).1 j).trans g1, g2, (hx _ _ g3).1, fun m hm => (hx _ _ g3).2.trans (g4 m hm)⟩
/-- Rows under construction: all zero -/
def S7 (Zs : jZ) (Is : jI) (Zc : jZ) (Ic : jI) (U : List Nat) (h0 : Nat) (J : List Nat) (Z : jZ) (I : jI) (x y z : Nat) : Prop :=
  SW Zs Is Zc Ic U h0 7 J Z I x y z ∧ (∀ j, I h0 j = 0) ∧ (∀ j b, jr Z h0 j = some b → ∀ i, I b i = 0) ∧ (0 ∈ J → klen Z h0 = 64)
theorem S7_arr {Zs Zc Z : jZ} {Is Ic I : jI} {U : List Nat} {h0 x y z z' q : Nat} {J : List Nat} (j k m : Nat) (h : S7 Zs Is Zc Ic U h0 J Z I x y z) (hq : q ∉ Z.1) (hj : j ∉ J) (hk : 13 ≤ k) (hk2 : k ≤ 16) (hm : j = 0 → m = 64) (hz : (j = 0 → z = z' + 1) ∧ (j ≠ 0 → z = z')) (hs : ∀ k' o, jsh 7 j = some (k', o) → k' = k ∧ ∀ m', o = some m' → m' = m) :
    S7 Zs Is Zc Ic U h0 (j :: J) (jpR (jnw Z q k m) h0 j (some q)) (jz0 I q) (x + 1) (y + m) z' := by
  obtain ⟨h1, h2, h3, h4⟩ := h
  obtain ⟨g1, g2, g3⟩ := SW_new k m h1 hq (sh1_prim hk hk2) (by omega)
  rw [jcsA hk] at g1
  have In : jz0 I q q = fun _ => 0 := va_up_self _ _ _
  have hne : h0 ≠ q := fun e => hq (e ▸ h1.2.2.2.1.1)
  have Io : jz0 I q h0 = I h0 := va_up_ne _ _ hne
  have uq := h1.1.2.2.2.1.1
  have zr : ∀ i b, jr (jpR (jnw Z q k m) h0 j (some q)) h0 i = some b → ∀ n, jz0 I q b n = 0 := by
    intro i b e n
    by_cases hi : i = j
    · subst hi
      rw [jrR_at] at e; cases e
      rw [In]
    · rw [jrR_off hi, jr_old hne] at e
      have hb : b ≠ q := fun g => hq (g ▸ uq.2.1 h0 7 i b h1.2.2.2.1 e)
      rw [show jz0 I q b = I b from va_up_ne _ _ hb]
      exact h3 i b e n
  have kl : 0 ∈ j :: J → klen (jpR (jnw Z q k m) h0 j (some q)) h0 = 64 := by
    intro h0J
    by_cases hj0 : j = 0
    · subst hj0
      unfold klen
      rw [jrR_at]
      exact (jlen_nw (k := k)).trans (hm rfl)
    · rw [klen_put (fun g => hj0 g.2.symm), klen_old uq hq h1.2.2.2.1]
      exact h4 ((List.mem_cons.mp h0J).resolve_left (fun g => hj0 g.symm))
  have s := SW_ref (z' := z') j g1 hj jk_nw.1 g2 (Or.inl g3) (fun _ _ i => by rw [In]; exact okA0 _ _ _) (fun _ b0 b1 b2 b4 e0 e1 e2 e4 => by
      have h0J : 0 ∈ j :: J := by
        by_cases hj0 : (0 : Nat) ∈ j :: J
        · exact hj0
        · have hjn : (0 : Nat) ≠ j := fun g => hj0 (by rw [← g]; exact List.mem_cons_self)
          rw [jrR_off hjn, g1.2.2.2.2.2.1 0 (fun g => hj0 (List.mem_cons_of_mem _ g))] at e0
          cases e0
      have hl := kl h0J
      unfold klen at hl
      rw [e0] at hl
      exact RI1_zero hl (fun i => by rw [Io]; exact h2 i) (zr 2 b2 e2)) (by
      have hp := g1.1.2.2.2.2.2.1.2.2
      by_cases hj0 : j = 0
      · subst hj0
        have := potc_put7 (b := q) g1.1.2.2.2.1.1 g1.2.2.2.1 (g1.2.2.2.2.2.1 0 hj) (jlen_nw.trans (hm rfl))
        have := hz.1 rfl
        omega
      · rw [potc_put g1.2.2.2.1 (by omega) (fun e => hj0 e.2)]
        have := hz.2 hj0
        omega) (fun r _ => capN_put g1.2.2.2.1 (by omega)) (fun k' o e => by
      obtain ⟨e1, e2⟩ := hs k' o e
      subst e1
      exact ⟨jk_nw, fun m' hm' => by rw [e2 m' hm']; exact jlen_nw⟩)
  exact ⟨s, fun i => by rw [Io]; exact h2 i, zr, kl⟩
set_option maxHeartbeats 4000000 in
theorem cw_X7_init : CTW 7 f_X7_init 7 126 1 0 := by
  intro Zs Is Z I L U h0 x y z Q hC hk hU hn hI hQ
  have s0 : S7 Zs Is Z I U h0 [] Z I x y (z + 1) := ⟨SW_start hC hk hU hn, hI, (fun j b e => by rw [hn] at e; cases e), fun h => absurd h List.not_mem_nil⟩
  unfold f_X7_init
  intro q1 n1 Z1 eZ1 I1 eI1 L1 eL1 Z2 eZ2
  have s1 := S7_arr (z' := z) 0 15 64 s0 n1 (by decide) (by decide) (by decide) (fun _ => rfl) ⟨fun _ => rfl, fun h => absurd rfl h⟩ (shMn rfl)
  rw [← eZ1, ← eZ2, ← eI1] at s1
  intro q2 n2 Z3 eZ3 I2 eI2 L2 eL2 Z4 eZ4
  have s2 := S7_arr (z' := z) 1 14 25 s1 n2 (by decide) (by decide) (by decide) (fun h => by cases h) ⟨(fun h => by cases h), fun _ => rfl⟩ (shM rfl)
  rw [← eZ3, ← eZ4, ← eI2] at s2
  intro q3 n3 Z5 eZ5 I3 eI3 L3 eL3 Z6 eZ6
  have s3 := S7_arr (z' := z) 2 14 25 s2 n3 (by decide) (by decide) (by decide) (fun h => by cases h) ⟨(fun h => by cases h), fun _ => rfl⟩ (shM rfl)
  rw [← eZ5, ← eZ6, ← eI3] at s3
  intro I4 eI4
  rw [jpI_id (s3.2.1 3)] at eI4
  subst eI4
  intro q4 n4 Z7 eZ7 I5 eI5 L4 eL4 Z8 eZ8
  have s4 := S7_arr (z' := z) 4 14 3 s3 n4 (by decide) (by decide) (by decide) (fun h => by cases h) ⟨(fun h => by cases h), fun _ => rfl⟩ (shM rfl)
  rw [← eZ7, ← eZ8, ← eI5] at s4
  intro q5 n5 Z9 eZ9 I6 eI6 L5 eL5 Z10 eZ10
  have s5 := S7_arr (z' := z) 5 14 3 s4 n5 (by decide) (by decide) (by decide) (fun h => by cases h) ⟨(fun h => by cases h), fun _ => rfl⟩ (shM rfl)
  rw [← eZ9, ← eZ10, ← eI6] at s5
  intro q6 n6 Z11 eZ11 I7 eI7 L6 eL6 Z12 eZ12
  have s6 := S7_arr (z' := z) 6 15 3 s5 n6 (by decide) (by decide) (by decide) (fun h => by cases h) ⟨(fun h => by cases h), fun _ => rfl⟩ (shM rfl)
  rw [← eZ11, ← eZ12, ← eI7] at s6
  intro q7 n7 Z13 eZ13 I8 eI8 L7 eL7 Z14 eZ14
  have s7 := S7_arr (z' := z) 7 15 3 s6 n7 (by decide) (by decide) (by decide) (fun h => by cases h) ⟨(fun h => by cases h), fun _ => rfl⟩ (shM rfl)
  rw [← eZ13, ← eZ14, ← eI8] at s7
  intro I9 eI9
  rw [jpI_id (s7.2.1 8)] at eI9
  subst eI9
  intro I10 eI10
  rw [jpI_id (s7.2.1 9)] at eI10
  subst eI10
  obtain ⟨e1, e2⟩ := SW_end s7.1 (by decide) (shJ (by decide))
  exact hQ _ _ _ (e1.cast (by omega) (by omega) (by omega)) s7.1.2.2.2.1 e2 (fun _ => s7.2.2.2 (by decide)) s7.1.2.1 s7.1.2.2.1
theorem capN_put0 {Z : jZ} {a b r : Nat} (hn : jr Z a 0 = none) (hr : r ≠ b) : capN (jpR Z a 0 (some b)) r = capN Z r := by
  refine capN_iff ⟨fun g => ?_, fun g => ?_⟩
  · obtain ⟨w, h1, h2⟩ := g
    by_cases hw : w = a
    · subst hw
      rw [jrR_at] at h2; cases h2; exact absurd rfl hr
    · rw [jrR_ne hw] at h2; exact ⟨w, h1, h2⟩
  · obtain ⟨w, h1, h2⟩ := g
    have hw : w ≠ a := fun e => by subst e; rw [hn] at h2; cases h2
    exact ⟨w, h1, by rw [jrR_ne hw]; exact h2⟩
/-- the rows of ByCost may grow further -/
theorem SW_put00 {Zs Zc Z : jZ} {Is Ic I : jI} {U : List Nat} {h0 x y z b : Nat} {J : List Nat} (h : SW Zs Is Zc Ic U h0 0 J Z I x y z) (kb : jk Z b 7) (hbU : b ∉ h0 :: U) (hn : NH Z b) (hl : klen Z b = 64) (hbs : b ∉ Zs.1) (hj : 0 ∉ J) : SW Zs Is Zc Ic U h0 0 (0 :: J) (jpR Z h0 0 (some b)) I x y (z + 14336) := by
  refine SW_ref 0 h hj kb.1 hbU (Or.inl hn) (fun e => by rw [kb.2] at e; cases e) (fun e => by cases e) (by rw [potc_put0 h.1.2.2.2.1.1 h.2.2.2.1 (h.2.2.2.2.2.1 0 hj) kb hn hl]; have := h.1.2.2.2.2.2.1.2.2; omega) (fun r hr => capN_put0 (h.2.2.2.2.2.1 0 hj) (fun e => hbs (e ▸ hr.1))) (fun k' o e => ?_)
  cases e
  exact ⟨kb, fun m hm => by cases hm⟩
/-- two rows of bytes and the row of them -/
theorem SW_mna {Zs Zc Z : jZ} {Is Ic I : jI} {U : List Nat} {h0 c x y z r0 r1 q : Nat} {J : List Nat} (j : Nat) (h : SW Zs Is Zc Ic U h0 c J Z I x y z) (h0' : r0 ∉ Z.1) (h1' : r1 ∉ (jnw Z r0 13 40).1) (hq : q ∉ (jnw (jnw Z r0 13 40) r1 13 40).1) (hs : jsh c j = some (19, some 2)) (hj : j ∉ J := by decide) (h7 : c ≠ 7 := by decide) (h00 : ¬ (c = 0 ∧ j = 0) := by decide) : SW Zs Is Zc Ic U h0 c (j :: J) (jpR (jnw2 Z r0 r1 q) h0 j (some q)) (jz2 I r0 r1 q) (x + 3) (y + 82) z := by
  obtain ⟨a1, a2, a3⟩ := SW_new 13 40 h h0' (sh1_prim (by decide) (by decide)) (by decide)
  obtain ⟨b1, b2, b3⟩ := SW_new 13 40 a1 h1' (sh1_prim (by decide) (by decide)) (by decide)
  have c1 := CW_nw 19 2 b1.1 hq
  have hqU : q ∉ h0 :: U := fun e => hq (b1.1.2.2.2.2.1 q e).1
  have w0 := SW_start c1 jk_nw hqU (fun _ => jr_new)
  have m0 : r0 ∈ (jnw (jnw Z r0 13 40) r1 13 40).1 := List.mem_append_left _ jk_nw.1
  have m1 : r1 ∈ (jnw (jnw Z r0 13 40) r1 13 40).1 := jk_nw.1
  have n0 : r0 ≠ q := fun e => hq (e ▸ m0)
  have n1 : r1 ≠ q := fun e => hq (e ▸ m1)
  have n01 : r1 ≠ r0 := fun e => h1' (e ▸ jk_nw.1)
  have k0 : jk (jnw (jnw (jnw Z r0 13 40) r1 13 40) q 19 2) r0 13 := ((jext_nw hq) _ _ ((jext_nw h1') _ _ jk_nw).1).1
  have k1 : jk (jnw (jnw (jnw Z r0 13 40) r1 13 40) q 19 2) r1 13 := ((jext_nw hq) _ _ jk_nw).1
  have l0 : jlen (jnw (jnw (jnw Z r0 13 40) r1 13 40) q 19 2) r0 = 40 := (jlen_old n0).trans ((jlen_old (fun e => n01 e.symm)).trans jlen_nw)
  have l1 : jlen (jnw (jnw (jnw Z r0 13 40) r1 13 40) q 19 2) r1 = 40 := (jlen_old n1).trans jlen_nw
  have z0 : ∀ b i, (b = r0 ∨ b = r1) → jz2 I r0 r1 q b i = 0 := by
    intro b i hb
    show va_up (va_up (va_up I r0 fun _ => 0) r1 fun _ => 0) q (fun _ => 0) b i = 0
    rcases hb with rfl | rfl
    · rw [va_up_ne _ _ n0, va_up_ne _ _ (fun e => n01 e.symm), va_up_self]
    · rw [va_up_ne _ _ n1, va_up_self]
  have hz : (if (19 : Nat) = 7 then 2048 else 0) = 0 := rfl
  have w1 := SW_ref (z' := z) 0 (b := r0) w0 List.not_mem_nil k0.1 (fun e => (List.mem_cons.mp e).elim n0 a2) (Or.inl (NH_nw (NH_nw a3))) (fun _ _ i => by rw [show jz0 (jz0 (jz0 I r0) r1) q r0 i = 0 from z0 r0 i (Or.inl rfl)]; exact okA0 _ _ _) (fun e => by cases e) (by rw [potc_put jk_nw (by omega) (by omega)]; exact c1.2.2.2.2.2.1.2.2) (fun r _ => capN_put jk_nw (by omega)) (fun k o e => jsh_no (by decide) e)
  have w2 := SW_ref (z' := z) 1 (b := r1) w1 (by decide) k1.1 (fun e => (List.mem_cons.mp e).elim n1 b2) (Or.inl (NH_put (NH_nw b3) n01)) (fun _ _ i => by rw [show jz0 (jz0 (jz0 I r0) r1) q r1 i = 0 from z0 r1 i (Or.inr rfl)]; exact okA0 _ _ _) (fun e => by cases e) (by rw [potc_put w1.2.2.2.1 (by omega) (by omega)]; exact w1.1.2.2.2.2.2.1.2.2) (fun r _ => capN_put w1.2.2.2.1 (by omega)) (fun k o e => jsh_no (by decide) e)
  have c2 := CW_done w2.1 w2.2.2.2.1 ⟨fun _ _ _ e => jsh_no (by decide) e, (fun e => by cases e), (fun e => by cases e), fun _ i hi => by
    have hi : i < 2 := by rw [show jlen (jpR (jpR (jnw (jnw (jnw Z r0 13 40) r1 13 40) q 19 2) q 0 (some r0)) q 1 (some r1)) q = 2 from jlen_nw (Z := jnw (jnw Z r0 13 40) r1 13 40) (k := 19)] at hi; exact hi
    rcases (show i = 0 ∨ i = 1 by omega) with rfl | rfl
    · exact ⟨r0, (jrR_off (by decide)).trans jrR_at, a2, k0, l0⟩
    · exact ⟨r1, jrR_at, b2, k1, l1⟩⟩
  have hnq : NH (jnw2 Z r0 r1 q) q := (w2.1.2.2.2.2.1 q List.mem_cons_self).2.2
  have s3 := SW_go h (c2.cast (x' := x + 3) (y' := y + 82) (z' := z) rfl (by rw [jcsA (by decide), jcsA (by decide)]) rfl) (Z' := jnw2 Z r0 r1 q) (jext_trans (jext_nw h0') (jext_trans (jext_nw h1') (jext_trans (jext_nw hq) (jext_trans jext_putr jext_putr)))) (fun u hu => by
    have e0 : u ≠ r0 := fun e => h0' (e ▸ hu)
    have e1 : u ≠ r1 := fun e => h1' (e ▸ List.mem_append_left _ hu)
    have e2 : u ≠ q := fun e => hq (e ▸ List.mem_append_left _ (List.mem_append_left _ hu))
    exact ⟨(va_up_ne _ _ e2).trans ((va_up_ne _ _ e2).trans ((va_up_ne _ _ e2).trans ((va_up_ne _ _ e1).trans (va_up_ne _ _ e0)))), (va_up_ne _ _ e2).trans ((va_up_ne _ _ e1).trans (va_up_ne _ _ e0))⟩)
  exact SW_put j s3 (k := 19) w2.2.2.2.1 hqU hnq rfl hj h7 h00 (shMl hs (jlen_nw (Z := jnw (jnw Z r0 13 40) r1 13 40) (k := 19)))
