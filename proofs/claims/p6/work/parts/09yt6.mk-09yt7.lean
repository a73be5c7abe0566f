section
/-! ===== the letters that a LAW names; prices for all ASKS ===== -/
theorem nb_or : ∀ (M : Fin 128) (j : Fin 7), (Int32.ofNat M.val ||| ((1 : Int32) <<< ((Int32.ofInt (1000 + (j.val : Int)) - (1000 : Int32)) &&& 31))) = Int32.ofNat (M.val ||| 2 ^ j.val) ∧ M.val ||| 2 ^ j.val < 128 := by decide +kernel
theorem nb_bit : ∀ (M : Fin 128) (j i : Fin 7), ((M.val ||| 2 ^ j.val) / 2 ^ i.val % 2 = 1 ↔ M.val / 2 ^ i.val % 2 = 1 ∨ i.val = j.val) := by decide +kernel
theorem nb_0 : ∀ (M : Fin 128), (Int32.ofNat M.val ||| (0 : Int32)) = Int32.ofNat M.val := by decide +kernel
theorem nb_t : ∀ (M : Fin 128) (j : Fin 7), (((Int32.ofNat M.val >>> (Int32.ofNat j.val &&& 31)) &&& (1 : Int32)) = 0 ↔ ¬ M.val / 2 ^ j.val % 2 = 1) := by decide +kernel
theorem nmd_f : ∀ (c : List Int) (M : Nat), M < 128 → (∀ x ∈ c, okc x) → ∃ M', M' < 128 ∧ c.foldl nm1 (Int32.ofNat M) = Int32.ofNat M' ∧ ∀ j : Nat, j < 7 → (M' / 2 ^ j % 2 = 1 ↔ M / 2 ^ j % 2 = 1 ∨ (1000 + (j : Int)) ∈ c) := by
  intro c
  induction c with
  | nil => intro M hM _; exact ⟨M, hM, rfl, fun j _ => ⟨Or.inl, fun h => h.elim id (fun q => absurd q List.not_mem_nil)⟩⟩
  | cons x c ih =>
    intro M hM hk
    have hx := hk x List.mem_cons_self
    have hk' : ∀ y ∈ c, okc y := fun y hy => hk y (List.mem_cons_of_mem _ hy)
    by_cases c1 : x < 1000 ∨ 2000 ≤ x
    · have e : nm1 (Int32.ofNat M) x = Int32.ofNat M := by
        have z := nb_0 ⟨M, hM⟩
        unfold nm1
        rcases c1 with q | q
        · rw [if_pos q]; exact z
        · rw [if_neg (by omega), if_pos q]; exact z
      obtain ⟨M', h1, h2, h3⟩ := ih M hM hk'
      refine ⟨M', h1, ?_, fun j hj => ?_⟩
      · show c.foldl nm1 (nm1 (Int32.ofNat M) x) = _
        rw [e]
        exact h2
      · rw [h3 j hj, List.mem_cons]
        exact ⟨fun h => h.elim Or.inl (fun q => Or.inr (Or.inr q)), fun h => h.elim Or.inl (fun q => q.elim (fun q => by omega) Or.inr)⟩
    · have hj0 := hx.2.2 (by omega) (by omega)
      obtain ⟨j0, ex, hj0'⟩ : ∃ j0 : Nat, x = 1000 + (j0 : Int) ∧ j0 < 7 := ⟨(x - 1000).toNat, by omega, by omega⟩
      obtain ⟨o1, o2⟩ := nb_or ⟨M, hM⟩ ⟨j0, hj0'⟩
      have e : nm1 (Int32.ofNat M) x = Int32.ofNat (M ||| 2 ^ j0) := by
        unfold nm1
        rw [if_neg (by omega), if_neg (by omega), ex]
        exact o1
      obtain ⟨M', h1, h2, h3⟩ := ih (M ||| 2 ^ j0) o2 hk'
      refine ⟨M', h1, ?_, fun j hj => ?_⟩
      · show c.foldl nm1 (nm1 (Int32.ofNat M) x) = _
        rw [e]
        exact h2
      · have b : ((M ||| 2 ^ j0) / 2 ^ j % 2 = 1 ↔ M / 2 ^ j % 2 = 1 ∨ j = j0) := nb_bit ⟨M, hM⟩ ⟨j0, hj0'⟩ ⟨j, hj⟩
        rw [h3 j hj, List.mem_cons, b]
        constructor
        · rintro ((h | h) | h)
          · exact Or.inl h
          · exact Or.inr (Or.inl (by omega))
          · exact Or.inr (Or.inr h)
        · rintro (h | h | h)
          · exact Or.inl (Or.inl h)
          · exact Or.inl (Or.inr (by omega))
          · exact Or.inr h
/-- whether a letter is named -/
theorem nmd_bit {c : List Int} (hk : ∀ x ∈ c, okc x) {j : Nat} (hj : j < 7) : (((nmd c >>> (Int32.ofNat j &&& 31)) &&& (1 : Int32)) = 0) ↔ ¬ (1000 + (j : Int)) ∈ c := by
  obtain ⟨M, h1, h2, h3⟩ := nmd_f c 0 (by decide) hk
  have e : nmd c = Int32.ofNat M := h2
  have t : (((Int32.ofNat M >>> (Int32.ofNat j &&& 31)) &&& (1 : Int32)) = 0 ↔ ¬ M / 2 ^ j % 2 = 1) := nb_t ⟨M, h1⟩ ⟨j, hj⟩
  rw [e, t, h3 j hj]
  have z : ¬ 0 / 2 ^ j % 2 = 1 := by rw [Nat.zero_div]; decide
  exact ⟨fun h q => h (Or.inr q), fun h q => q.elim z h⟩
theorem ev_cong2 {lt lt' : Nat → Int32} : ∀ (c : List Int) (st : List Int32), (∀ x ∈ c, okc x) → (∀ j : Nat, j < 7 → (1000 + (j : Int)) ∈ c → lt j = lt' j) → ev lt c st = ev lt' c st := by
  intro c
  induction c with
  | nil => intro st _ _; rfl
  | cons x c ih =>
    intro st hc h
    have hx := hc x List.mem_cons_self
    have e1 : ev1 lt st x = ev1 lt' st x := by
      unfold ev1
      by_cases q : x < 1000
      · rw [if_pos q, if_pos q]
      · rw [if_neg q, if_neg q]
        by_cases q2 : x < 2000
        · have := hx.2.2 (by omega) q2
          rw [if_pos q2, if_pos q2, h (x - 1000).toNat (by omega) (by rw [show (1000 + (((x - 1000).toNat : Nat) : Int)) = x by omega]; exact List.mem_cons_self)]
        · rw [if_neg q2, if_neg q2]
    show ev lt c (ev1 lt st x) = ev lt' c (ev1 lt' st x)
    rw [e1]
    exact ih _ (fun y hy => hc y (List.mem_cons_of_mem _ hy)) (fun j hj hm => h j hj (List.mem_cons_of_mem _ hm))
/-- ASKS of step st becomes v -/
def updA (a : Nat → Int32) (st : Nat) (v : Int32) (k : Nat) : Int32 := if k = st then v else a k
theorem PRf_updA {c0 c1 : List Int} {a r s w : Nat → Int32} {x : Int → Int → Int32} {q : Nat} {v : Int32} {lw st fr lp ld : Int} (h : st.toNat ≠ q) : PRf c0 c1 (updA a q v) r s w x lw st fr lp ld = PRf c0 c1 a r s w x lw st fr lp ld := by
  have e : updA a q v st.toNat = a st.toNat := if_neg h
  have e2 : ltrP (updA a q v) r s w x st fr lp ld = ltrP a r s w x st fr lp ld := by
    funext j
    unfold ltrP
    rw [e]
  unfold PRf
  rw [e, e2]
theorem updA_self {a : Nat → Int32} {q : Nat} : updA a q (a q) = a := by
  funext k
  unfold updA
  by_cases c : k = q
  · rw [if_pos c, c]
  · rw [if_neg c]
set_option maxHeartbeats 4000000 in
theorem pi_L79 {Z : jZ} {I : jI} (w : WD Z I) (v0 u8 u13 o uL uC uS : Nat) (kv0 : jk Z v0 8) (h8 : jr Z v0 8 = some u8) (k8 : jk Z u8 14) (l8 : jlen Z u8 = 7) (ko : jk Z o 6) (h13 : jr Z o 13 = some u13) (k13 : jk Z u13 14) (l13 : jlen Z u13 = 21) (kL : jk Z uL 3) (hC : jr Z uL 0 = some uC) (hS : jr Z uL 2 = some uS) (n813 : u8 ≠ u13) (n8S : u8 ≠ uS) (n13S : u13 ≠ uS) (nC8 : uC ≠ u8) (nC13 : uC ≠ u13) (c : List Int) (hc : LWc I uL uC c) (ok : COk c ∧ c.length ≤ 40) (v8 v9 : Int32) (F : Nat → Int) (hdir : ¬ v8 = 0 → ∀ v : Nat, v < 21 → F v = (v : Int)) (hnn : v8 = 0 → (c.length = 0 ∨ ¬ (1000 : Int) ∈ c) → ∀ v : Nat, v < 21 → F v = v9.toInt) (hyy : v8 = 0 → c.length ≠ 0 → (1000 : Int) ∈ c → ∀ v : Nat, v < 21 → F v = (evT (ev (fun j => if j = 0 then Int32.ofNat v else I u8 j) c [])).toInt) {Q : jI → jL → Prop} (hQ : ∀ (I' : jI) (L' : jL), WD Z I' → FR [(3, 2), (6, 13), (8, 8)] Z I Z I' → (∀ v : Nat, v < 21 → (I' u13 v).toInt = F v) → (∀ a, a ≠ u8 → a ≠ u13 → a ≠ uS → I' a = I a) → Q I' L') :
    ∀ (k v : Nat) (v10 : Int32) (I1 : jI) (L1 : jL), 22 ≤ k + v → v ≤ 21 → v10.toInt = (v : Int) → WD Z I1 → FR [(3, 2), (6, 13), (8, 8)] Z I Z I1 → (∀ a, a ≠ u8 → a ≠ u13 → a ≠ uS → I1 a = I a) → (∀ j, j ≠ 0 → I1 u8 j = I u8 j) → (∀ x : Nat, x < v → (I1 u13 x).toInt = F x) → f_X8_pricesInto_L79 Z Q k v0 u13 uL v8 v9 v10 I1 L1 := by
  have z0 : (0 : Int32).toInt = 0 := rfl
  have z1 : (1 : Int32).toInt = 1 := rfl
  have zl : (nI (jlen Z u13)).toInt = 21 := by rw [l13]; exact i_nI (n := 21) (by omega)
  have nL8 : uL ≠ u8 := ks_ne kL k8 (by decide)
  have nL13 : uL ≠ u13 := ks_ne kL k13 (by decide)
  obtain ⟨x, ex, kS, -⟩ := sh_f w.1 kL (j := 2) (k := 14) (m := 41) rfl
  cases hS.symm.trans ex
  have nLS : uL ≠ uS := ks_ne kL kS (by decide)
  have nCS : uC ≠ uS := ds_ne w.2.1 kL hC hS rfl rfl (by decide)
  obtain ⟨e3, ev3, e4⟩ := hc
  intro k
  induction k with
  | zero => intro v v10 I1 L1 hk hv; omega
  | succ k ih =>
    intro v v10 I1 L1 hk hv e10 w1 f1 o1 oj hF
    unfold f_X8_pricesInto_L79
    refine ⟨fun q => ?_, fun q => ?_⟩
    · have q := (i_le zl e10).mp q
      exact hQ I1 L1 w1 f1 (fun x hx => hF x (by omega)) o1
    have q := (not_congr (i_le zl e10)).mp q
    have n10 : v10.toNatClampNeg = v := by have := i_nat e10 (by omega); omega
    have ev10 : v10 = Int32.ofNat v := (i_eq e10 (i_nI (n := v) (by omega))).mpr rfl
    intro b5 h5; cases h8.symm.trans h5
    intro I6 e6
    rw [show (0 : Int32).toNatClampNeg = 0 by decide] at e6
    have w6 : WD Z I6 := by rw [e6]; exact WD_putA w1 8 8 kv0 h8 k8 rfl rfl (by decide) trivial
    have f6 : FR [(3, 2), (6, 13), (8, 8)] Z I Z I6 := f1.trans w.1 w.2.1 (by rw [e6]; exact FR_upA w1.2.1 kv0 h8 k8 rfl rfl (by decide))
    have o6 : ∀ a, a ≠ u8 → a ≠ u13 → a ≠ uS → I6 a = I a := fun a a1 a2 a3 => by rw [e6, jpI_ne a1]; exact o1 a a1 a2 a3
    have j6 : ∀ j, j ≠ 0 → I6 u8 j = I u8 j := fun j hj => by rw [e6, jpI_off hj]; exact oj j hj
    have p6 : I6 u13 = I1 u13 := by rw [e6, jpI_ne n813.symm]
    have l6 : (fun j => I6 u8 j) = (fun j => if j = 0 then Int32.ofNat v else I u8 j) := by
      funext j
      by_cases cj : j = 0
      · rw [if_pos cj, cj, e6, jpI_at, ev10]
      · rw [if_neg cj]; exact j6 j cj
    have put : ∀ (s2 : Int32) (I7 : jI) (L7 : jL), s2.toInt = F v → WD Z I7 → FR [(3, 2), (6, 13), (8, 8)] Z I Z I7 → (∀ a, a ≠ u8 → a ≠ u13 → a ≠ uS → I7 a = I a) → (∀ j, j ≠ 0 → I7 u8 j = I u8 j) → I7 u13 = I1 u13 → f_X8_pricesInto_b130 (f_X8_pricesInto_L79 Z Q k) Z Q v0 u13 uL v8 v9 v10 u13 v10 s2 I7 L7 := by
      intro s2 I7 L7 hs w7 f7 o7 j7 p7
      unfold f_X8_pricesInto_b130
      refine ⟨by rw [l13]; exact vi_of e10 (by omega) (by omega), fun I2 e2 x3 ex3 => ?_⟩
      rw [n10] at e2
      refine ih (v + 1) x3 I2 L7 (by omega) (by omega) (by rw [ex3]; exact (i_add e10 z1 (by omega) (by omega)).trans (by omega)) ?_ ?_ (fun a a1 a2 a3 => by rw [e2, jpI_ne a2]; exact o7 a a1 a2 a3) (fun j hj => by rw [e2, jpI_ne n813]; exact j7 j hj) (fun x hx => ?_)
      · rw [e2]; exact WD_putA w7 6 13 ko h13 k13 rfl rfl (by decide) trivial
      · exact f7.trans w.1 w.2.1 (by rw [e2]; exact FR_upA w7.2.1 ko h13 k13 rfl rfl (by decide))
      · rw [e2]
        by_cases cx : x = v
        · rw [cx, jpI_at]; exact hs
        · rw [jpI_off cx, p7]; exact hF x (by omega)
    refine ⟨fun g => ?_, fun g => put v10 I6 L1 (by rw [hdir g v (by omega)]; exact e10) w6 f6 o6 j6 p6⟩
    have sz : (I6 uL 3).toInt = (c.length : Int) := by rw [o6 uL nL8 nL13 nLS]; exact e3
    have nm : I6 uL 4 = nmd c := by rw [o6 uL nL8 nL13 nLS]; exact e4
    have no : (c.length = 0 ∨ ¬ (1000 : Int) ∈ c) → f_X8_pricesInto_b130 (f_X8_pricesInto_L79 Z Q k) Z Q v0 u13 uL v8 v9 v10 u13 v10 v9 I6 L1 := fun h => put v9 I6 L1 (hnn g h v (by omega)).symm w6 f6 o6 j6 p6
    unfold f_X3_names f_X3_isTold
    refine ⟨fun g2 => ⟨fun _ => ?_, fun g3 => absurd rfl g3⟩, fun g2 => ⟨fun g3 => absurd g3 (by decide), fun _ => ⟨fun g3 => ?_, fun g3 => ?_⟩⟩⟩
    · have g2 := (i_le sz z0).mp g2
      exact ⟨fun _ => no (Or.inl (by omega)), fun g3 => absurd rfl g3⟩
    · rw [nm] at g3
      have b := (nmd_bit (COk_mem ok.1) (j := 0) (by decide)).mp g3
      exact ⟨fun _ => no (Or.inr b), fun g4 => absurd rfl g4⟩
    · have g2 := (not_congr (i_le sz z0)).mp g2
      rw [nm] at g3
      have b : (1000 : Int) ∈ c := Classical.byContradiction (fun h => g3 ((nmd_bit (COk_mem ok.1) (j := 0) (by decide)).mpr h))
      refine ⟨fun g4 => absurd g4 (by decide), fun _ => ?_⟩
      intro b16 h16; cases h8.symm.trans h16
      refine s18_X3_priceFor w6 uL u8 kL k8 l8 uC uS hC hS n8S c sz ok.2 (fun i hi => by rw [o6 uC nC8 nC13 nCS]; exact ev3 i hi) ok.1 (fun I9 L9 w9 f9 o9 => ?_)
      refine put _ I9 L9 ?_ w9 (f6.trans w.1 w.2.1 (f9.mono (by decide))) (fun a a1 a2 a3 => (o9 a a3).trans (o6 a a1 a2 a3)) (fun j hj => by rw [o9 u8 n8S]; exact j6 j hj) (by rw [o9 u13 n13S]; exact p6)
      rw [l6]
      exact (hyy g (by omega) b v (by omega)).symm
set_option maxHeartbeats 4000000 in
theorem pi_b15 {Z : jZ} {I : jI} {L : jL} (w : WD Z I) (v0 u0 u1 u2 u3 u4 u41 u5 u8 : Nat) (S : STc Z v0 u0 u1 u2 u3 u4 u41 u5 u8) (o u13 : Nat) (ko : jk Z o 6) (h13 : jr Z o 13 = some u13) (uL uC j : Nat) (hL : jr Z v0 j = some uL) (js : jsr 8 j = false) (kL : jk Z uL 3) (hC : jr Z uL 0 = some uC) (c0 c1 c : List Int) (hc : LWc I uL uC c) (ok : COk c ∧ c.length ≤ 40) (v2 v3 v4 v5 v6 : Int32) (hv2 : v2.toInt = 0 ∨ v2.toInt = 1) (ec : (if v2.toInt = 0 then c0 else c1) = c) (n : Int) (hn : (I v0 9).toInt = n) (n24 : n ≤ 24) (hs : 0 ≤ v3.toInt ∧ v3.toInt < n) (hf : -1 ≤ v4.toInt ∧ v4.toInt < n) {Q : jI → jL → Prop} (hQ : ∀ (I' : jI) (L' : jL), WD Z I' → FR [(3, 2), (6, 13), (8, 8)] Z I Z I' → (∀ v : Nat, v < 21 → (I' u13 v).toInt = PRf c0 c1 (updA (I u2) v3.toInt.toNat (Int32.ofNat v)) (I u0) (I u1) (I u3) (xLc (I u41) (I u5)) v2.toInt v3.toInt v4.toInt v5.toInt v6.toInt) → (∀ a, a ≠ u8 → a ≠ u13 → (∀ uS, jr Z uL 2 = some uS → a ≠ uS) → I' a = I a) → Q I' L') : f_X8_pricesInto_b15 Z Q v0 u13 v2 v3 v4 v5 v6 uL I L := by
  obtain ⟨k0, k1, k2, k3, k4, k41, k5, k8, l8, n0, n1, n2, n3, n41, n5⟩ := STc_k w S
  have S2 := S
  obtain ⟨kv0, h0, h1, h2, h3, h4, h41, h5, h8⟩ := S2
  have z0 : (0 : Int32).toInt = 0 := rfl
  obtain ⟨x, ex, k13, l13⟩ := sh_f w.1 ko (j := 13) (k := 14) (m := 21) rfl
  cases h13.symm.trans ex
  obtain ⟨uS, hS, kS, -⟩ := sh_f w.1 kL (j := 2) (k := 14) (m := 41) rfl
  obtain ⟨x, ex, kC, -⟩ := sh_f w.1 kL (j := 0) (k := 14) (m := 40) rfl
  cases hC.symm.trans ex
  have un : ∀ (a c i b d j' : Nat), jk Z a c → jk Z b d → ∀ x, jr Z a i = some x → jr Z b j' = some x → jsr c i = false → jsr d j' = false → c ≠ d → False := fun a c i b d j' ka kb x ea eb sa sb hne => ks_ne ka kb hne (w.2.1.2.2 a c i b d j' x ka kb ea eb sa sb).1
  have n813 : u8 ≠ u13 := fun q => by rw [q] at h8; exact un v0 8 8 o 6 13 kv0 ko u13 h8 h13 rfl rfl (by decide)
  have n8S : u8 ≠ uS := fun q => by rw [q] at h8; exact un v0 8 8 uL 3 2 kv0 kL uS h8 hS rfl rfl (by decide)
  have n13S : u13 ≠ uS := fun q => by rw [q] at h13; exact un o 6 13 uL 3 2 ko kL uS h13 hS rfl rfl (by decide)
  have nC8 : uC ≠ u8 := fun q => by rw [q] at hC; exact un uL 3 0 v0 8 8 kL kv0 u8 hC h8 rfl rfl (by decide)
  have nC13 : uC ≠ u13 := fun q => by rw [q] at hC; exact un uL 3 0 o 6 13 kL ko u13 hC h13 rfl rfl (by decide)
  have nL8 : uL ≠ u8 := ks_ne kL k8 (by decide)
  have nLS : uL ≠ uS := ks_ne kL kS (by decide)
  have q3 : v3.toNatClampNeg = v3.toInt.toNat := by have := i_nat (x := v3) rfl (by omega); omega
  have vi : vp_in v3 24 := vi_of rfl (by omega) (by omega)
  have hcc := hc
  obtain ⟨e3, ev3, e4⟩ := hc
  -- the rest, for either flag
  have go : ∀ s0 : Int32, (¬ s0 = 0 → c.length = 0 ∧ v2.toInt = 0 ∧ I u3 v3.toInt.toNat = 0) → (s0 = 0 → c.length = 0 → ¬ (v2.toInt = 0 ∧ I u3 v3.toInt.toNat = 0)) → f_X8_pricesInto_b52 Z Q v0 u13 v3 v4 v5 v6 uL s0 I L := by
    intro s0 g1 g2
    unfold f_X8_pricesInto_b52
    refine r_X8_putLetters w v0 u0 u1 u2 u3 u4 u41 u5 u8 S v3 v4 v5 v6 n hn n24 hs hf (fun I2 w2 f2 o2 hl => ?_)
    intro b30 h30; cases h8.symm.trans h30
    have hc2 : LWc I2 uL uC c := by
      unfold LWc
      rw [o2 uL nL8, o2 uC nC8]
      exact hcc
    refine s18_X3_priceFor w2 uL u8 kL k8 l8 uC uS hC hS n8S c hc2.1 ok.2 hc2.2.1 ok.1 (fun I3 L3 w3 f3 o3 => ?_)
    have f03 : FR [(3, 2), (6, 13), (8, 8)] Z I Z I3 := (f2.mono (by decide)).trans w.1 w.2.1 (f3.mono (by decide))
    have hc3 : LWc I3 uL uC c := by
      unfold LWc
      rw [o3 uL nLS, o3 uC (ds_ne w.2.1 kL hC hS rfl rfl (by decide))]
      exact hc2
    have l3 : ∀ j, j < 7 → I3 u8 j = ltrP (I u2) (I u0) (I u1) (I u3) (xLc (I u41) (I u5)) v3.toInt v4.toInt v5.toInt v6.toInt j := fun j hj => by rw [o3 u8 n8S]; exact hl j hj
    have lu : ∀ (v j : Nat), ltrP (updA (I u2) v3.toInt.toNat (Int32.ofNat v)) (I u0) (I u1) (I u3) (xLc (I u41) (I u5)) v3.toInt v4.toInt v5.toInt v6.toInt j = if j = 0 then Int32.ofNat v else ltrP (I u2) (I u0) (I u1) (I u3) (xLc (I u41) (I u5)) v3.toInt v4.toInt v5.toInt v6.toInt j := fun v j => by
      unfold ltrP
      by_cases cj : j = 0
      · rw [if_pos cj, if_pos cj]
        exact if_pos rfl
      · rw [if_neg cj, if_neg cj, if_neg cj]
    refine ⟨22, pi_L79 w3 v0 u8 u13 o uL uC uS kv0 h8 k8 l8 ko h13 k13 l13 kL hC hS n813 n8S n13S nC8 nC13 c hc3 ok s0 (evT (ev (fun j => I2 u8 j) c [])) (fun v => PRf c0 c1 (updA (I u2) v3.toInt.toNat (Int32.ofNat v)) (I u0) (I u1) (I u3) (xLc (I u41) (I u5)) v2.toInt v3.toInt v4.toInt v5.toInt v6.toInt) (fun g v hv => ?_) (fun g h v hv => ?_) (fun g hz hm v hv => ?_) (fun I' L' w' f' hF o' => hQ I' L' w' (f03.trans w.1 w.2.1 f') hF (fun a a1 a2 a3 => ?_)) 22 0 0 I3 L3 (by omega) (by omega) rfl w3 FR.rf (fun _ _ _ _ => rfl) (fun _ _ => rfl) (fun x hx => absurd hx (Nat.not_lt_zero x))⟩
    · obtain ⟨q1, q2, q4⟩ := g1 g
      show PRf _ _ _ _ _ _ _ _ _ _ _ _ = _
      unfold PRf
      rw [ec, if_pos q1, if_pos ⟨q2, q4⟩]
      unfold updA
      rw [if_pos rfl]
      exact i_nI (n := v) (by omega)
    · show PRf _ _ _ _ _ _ _ _ _ _ _ _ = _
      by_cases hz : c.length = 0
      · have hcn : c = [] := List.length_eq_zero_iff.mp hz
        unfold PRf
        rw [ec, if_pos hz, if_neg (g2 g hz), hcn]
        rfl
      · have hm : ¬ (1000 : Int) ∈ c := h.resolve_left hz
        unfold PRf
        rw [ec, if_neg hz]
        have e := ev_cong2 (lt := ltrP (updA (I u2) v3.toInt.toNat (Int32.ofNat v)) (I u0) (I u1) (I u3) (xLc (I u41) (I u5)) v3.toInt v4.toInt v5.toInt v6.toInt) (lt' := fun j => I2 u8 j) c [] (COk_mem ok.1) (fun j hj hjm => ?_)
        · rw [e]
        · have hj0 : j ≠ 0 := fun q => by rw [q] at hjm; exact hm hjm
          rw [lu v j, if_neg hj0]
          exact (hl j hj).symm
    · show PRf _ _ _ _ _ _ _ _ _ _ _ _ = _
      unfold PRf
      rw [ec, if_neg hz]
      have e := ev_cong (lt := ltrP (updA (I u2) v3.toInt.toNat (Int32.ofNat v)) (I u0) (I u1) (I u3) (xLc (I u41) (I u5)) v3.toInt v4.toInt v5.toInt v6.toInt) (lt' := fun j => if j = 0 then Int32.ofNat v else I3 u8 j) (fun j hj => ?_) c [] (COk_mem ok.1)
      · rw [e]
      · rw [lu v j]
        by_cases cj : j = 0
        · rw [if_pos cj]
          show _ = (if j = 0 then Int32.ofNat v else I3 u8 j)
          rw [if_pos cj]
        · rw [if_neg cj]
          show _ = (if j = 0 then Int32.ofNat v else I3 u8 j)
          rw [if_neg cj]
          exact (l3 j hj).symm
    · have nS := a3 uS hS
      rw [o' a a1 a2 nS, o3 a nS, o2 a a1]
  have b51 : (c.length = 0 → ¬ (v2.toInt = 0 ∧ I u3 v3.toInt.toNat = 0)) → f_X8_pricesInto_b51 Z Q v0 u13 v3 v4 v5 v6 uL I L := fun h => by
    unfold f_X8_pricesInto_b51
    exact go 0 (fun g => absurd rfl g) (fun _ => h)
  unfold f_X8_pricesInto_b15
  refine r_X8_has v0 v3 v3.toInt n rfl hn hs.1 hs.2 w kv0 (fun r45 hr => ⟨fun _ => ⟨fun g => ?_, fun g => ?_⟩, fun q => absurd q hr⟩)
  · have g := (not_congr (i_eq (x := v2) rfl z0)).mp g
    exact b51 (fun _ h => g h.1)
  · have g := (i_eq (x := v2) rfl z0).mp g
    unfold f_X3_isTold
    refine ⟨fun q => ⟨fun q9 => absurd rfl q9, fun _ => ?_⟩, fun q => ⟨fun _ => ?_, fun q9 => absurd q9 (by decide)⟩⟩
    · have q := (i_le e3 z0).mp q
      intro b56 h56; cases h3.symm.trans h56
      rw [q3]
      refine ⟨vi, fun g2 => b51 (fun _ h => g2 h.2), fun g2 => go 1 (fun _ => ⟨by omega, g, g2⟩) (fun h => absurd h (by decide))⟩
    · have q := (not_congr (i_le e3 z0)).mp q
      exact b51 (fun h => by omega)
theorem r_X8_pricesInto {Z : jZ} {I : jI} {L : jL} (w : WD Z I) (v0 u0 u1 u2 u3 u4 u41 u5 u8 : Nat) (S : STc Z v0 u0 u1 u2 u3 u4 u41 u5 u8) (o u13 : Nat) (ko : jk Z o 6) (h13 : jr Z o 13 = some u13) (uL0 uC0 uL1 uC1 : Nat) (c0 c1 : List Int) (hl : LWs Z I v0 uL0 uC0 uL1 uC1 c0 c1) (v2 v3 v4 v5 v6 : Int32) (hv2 : v2.toInt = 0 ∨ v2.toInt = 1) (n : Int) (hn : (I v0 9).toInt = n) (n24 : n ≤ 24) (hs : 0 ≤ v3.toInt ∧ v3.toInt < n) (hf : -1 ≤ v4.toInt ∧ v4.toInt < n) {Q : jI → jL → Prop} (hQ : ∀ (I' : jI) (L' : jL), WD Z I' → FR [(3, 2), (6, 13), (8, 8)] Z I Z I' → (∀ v : Nat, v < 21 → (I' u13 v).toInt = PRf c0 c1 (updA (I u2) v3.toInt.toNat (Int32.ofNat v)) (I u0) (I u1) (I u3) (xLc (I u41) (I u5)) v2.toInt v3.toInt v4.toInt v5.toInt v6.toInt) → (∀ a, a ≠ u8 → a ≠ u13 → (∀ uS, (jr Z uL0 2 = some uS ∨ jr Z uL1 2 = some uS) → a ≠ uS) → I' a = I a) → Q I' L') : f_X8_pricesInto v0 u13 v2 v3 v4 v5 v6 Z I L Q := by
  have kv0 := S.1
  obtain ⟨hL0, hC0, hL1, hC1, g0, g1, ok0, ok1⟩ := hl
  obtain ⟨x, ex, kL0⟩ := sh_o w.1 kv0 (j := 6) (k := 3) rfl
  cases hL0.symm.trans ex
  obtain ⟨x, ex, kL1⟩ := sh_o w.1 kv0 (j := 7) (k := 3) rfl
  cases hL1.symm.trans ex
  have z0 : (0 : Int32).toInt = 0 := rfl
  unfold f_X8_pricesInto
  refine ⟨fun c b60 h60 => ?_, fun c b61 h61 => ?_⟩
  · have c := (not_congr (i_eq (x := v2) rfl z0)).mp c
    cases hL1.symm.trans h60
    exact pi_b15 w v0 u0 u1 u2 u3 u4 u41 u5 u8 S o u13 ko h13 uL1 uC1 7 hL1 rfl kL1 hC1 c0 c1 c1 g1 ok1 v2 v3 v4 v5 v6 hv2 (if_neg c) n hn n24 hs hf (fun I' L' w' f' hF o' => hQ I' L' w' f' hF (fun a a1 a2 a3 => o' a a1 a2 (fun uS hS => a3 uS (Or.inr hS))))
  · have c := (i_eq (x := v2) rfl z0).mp c
    cases hL0.symm.trans h61
    exact pi_b15 w v0 u0 u1 u2 u3 u4 u41 u5 u8 S o u13 ko h13 uL0 uC0 6 hL0 rfl kL0 hC0 c0 c1 c0 g0 ok0 v2 v3 v4 v5 v6 hv2 (if_pos c) n hn n24 hs hf (fun I' L' w' f' hF o' => hQ I' L' w' f' hF (fun a a1 a2 a3 => o' a a1 a2 (fun uS hS => a3 uS (Or.inl hS))))
/-! ===== offers: what a STEP is paid, for each ASKS ===== -/
theorem CSm_same {PR PR' : Int → Int → Int → Int → Int → Int} {fr lp ld : Int} : ∀ (k : Nat) (s0 : Int), (∀ st, s0 ≤ st → st < s0 + (k : Int) → PR' 1 st fr lp ld = PR 1 st fr lp ld) → CSm PR' fr lp ld k s0 = CSm PR fr lp ld k s0 := by
  intro k
  induction k with
  | zero => intro s0 _; rfl
  | succ k ih =>
    intro s0 h
    show PR' 1 s0 fr lp ld + CSm PR' fr lp ld k (s0 + 1) = PR 1 s0 fr lp ld + CSm PR fr lp ld k (s0 + 1)
    rw [h s0 (Int.le_refl _) (by omega), ih (s0 + 1) (fun st h1 h2 => h st (by omega) (by omega))]
theorem CSm_upd {PR PR' : Int → Int → Int → Int → Int → Int} {fr lp ld q : Int} : ∀ (k : Nat) (s0 : Int), s0 ≤ q → q < s0 + (k : Int) → (∀ st, s0 ≤ st → st ≠ q → PR' 1 st fr lp ld = PR 1 st fr lp ld) → CSm PR' fr lp ld k s0 = CSm PR fr lp ld k s0 + (PR' 1 q fr lp ld - PR 1 q fr lp ld) := by
  intro k
  induction k with
  | zero => intro s0 h1 h2; omega
  | succ k ih =>
    intro s0 h1 h2 h
    show PR' 1 s0 fr lp ld + CSm PR' fr lp ld k (s0 + 1) = PR 1 s0 fr lp ld + CSm PR fr lp ld k (s0 + 1) + (PR' 1 q fr lp ld - PR 1 q fr lp ld)
    by_cases c : s0 = q
    · subst c
      rw [CSm_same k (s0 + 1) (fun st g1 g2 => h st (by omega) (by omega))]
      omega
    · rw [h s0 (Int.le_refl _) c, ih (s0 + 1) (by omega) (by omega) (fun st g1 g2 => h st (by omega) g2)]
      omega
theorem CC_same {PR PR' : Int → Int → Int → Int → Int → Int} {ld : Int} {q : Nat} (h : ∀ lw st fr lp, 0 ≤ st → st ≠ (q : Int) → PR' lw st fr lp ld = PR lw st fr lp ld) (x far : Nat) (h1 : 1 ≤ far) (hf : far ≤ x) (hx : x ≤ q ∨ q + far < x) : CCp PR' ld x far = CCp PR ld x far := by
  unfold CCp
  by_cases c : 1 ≤ far ∧ far ≤ 3
  · rw [if_pos c, if_pos c]
    unfold CST
    rw [h 0 _ _ _ (by omega) (by omega), CSm_same _ _ (fun st g1 g2 => h 1 st _ _ (by omega) (by omega))]
  · rw [if_neg c, if_neg c]
/-- what step q is paid in the move from place fr to place to -/
def prS (PR : Int → Int → Int → Int → Int → Int) (ld : Int) (q fr to : Nat) : Int := PR (if to = q + 1 then 0 else 1) (q : Int) ((fr : Int) - 1) ((to : Int) - (fr : Int) - 1) ld
theorem CC_upd {PR PR' : Int → Int → Int → Int → Int → Int} {ld : Int} {q fr to : Nat} (h : ∀ lw st fr lp, 0 ≤ st → st ≠ (q : Int) → PR' lw st fr lp ld = PR lw st fr lp ld) (h1 : fr ≤ q) (h2 : q < to) (h3 : to - fr ≤ 3) : CCp PR' ld to (to - fr) = CCp PR ld to (to - fr) + (prS PR' ld q fr to - prS PR ld q fr to) := by
  have e1 : ((to : Int) - ((to - fr : Nat) : Int) - 1) = (fr : Int) - 1 := by omega
  have e2 : ((to : Int) - 1 - ((fr : Int) - 1) - 1) = (to : Int) - (fr : Int) - 1 := by omega
  unfold CCp
  rw [if_pos ⟨by omega, h3⟩, if_pos ⟨by omega, h3⟩, e1]
  unfold CST prS
  rw [e2]
  by_cases c : to = q + 1
  · rw [if_pos c, CSm_same _ _ (fun st g1 g2 => h 1 st _ _ (by omega) (by omega)), show (to : Int) - 1 = (q : Int) by omega]
    omega
  · rw [if_neg c, h 0 _ _ _ (by omega) (by omega), CSm_upd (q := (q : Int)) _ _ (by omega) (by omega) (fun st g0 g => h 1 st _ _ (by omega) g)]
    omega
theorem mvK_upd {C C' E : Nat → Nat → Int} {p far : Nat} {d : Int} (h : C' p far = C p far + d) : mvK C' E p far = mvK C E p far + d * 2199023255552 := by
  unfold mvK
  rw [h]
  omega
theorem JN_fun {R1 R2 : List Int} {lim v v' : Int} (h : JNs R1 R2 lim v) (h' : JNs R1 R2 lim v') : v = v' := by
  rcases h with ⟨e, q⟩ | ⟨hB, ⟨x, y, hx, hy, hl, e⟩, q⟩
  · rcases h' with ⟨e', -⟩ | ⟨-, ⟨x, y, hx, hy, hl, -⟩, -⟩
    · omega
    · exact absurd hl (q x y hx hy)
  · rcases h' with ⟨-, q'⟩ | ⟨-, ⟨x', y', hx', hy', hl', e'⟩, q'⟩
    · exact absurd hl (q' x y hx hy)
    · have a := q x' y' hx' hy' hl'
      have b := q' x y hx hy hl
      omega
theorem OFk_fun {lp n : Nat} {op : Nat → Prop} {C' E : Nat → Nat → Int} {K : Int} {s : Nat} {R1 R2 : Nat → List Int} {fr to : Nat} {k k' : Int} (h : OFk lp n op C' E K s R1 R2 fr to k) (h' : OFk lp n op C' E K s R1 R2 fr to k') : k = k' := by
  obtain ⟨-, -, -, -, -, v, hv, -, e⟩ := h
  obtain ⟨-, -, -, -, -, v', hv', -, e'⟩ := h'
  have := JN_fun hv hv'
  omega
/-- the best of the moves looked at -/
def OFs (lp n : Nat) (op : Nat → Prop) (C' E : Nat → Nat → Int) (K : Int) (s : Nat) (R1 R2 : Nat → List Int) (D : Nat → Nat → Prop) (w pay : Int) (pr : Nat → Nat → Int) : Prop := (w = BIG ∧ ∀ fr to k, D fr to → ¬ OFk lp n op C' E K s R1 R2 fr to k) ∨ (w < BIG ∧ (∃ fr to, D fr to ∧ OFk lp n op C' E K s R1 R2 fr to w ∧ pay = pr fr to) ∧ ∀ fr to k, D fr to → OFk lp n op C' E K s R1 R2 fr to k → w ≤ k)
theorem OFs_mono {lp n : Nat} {op : Nat → Prop} {C' E : Nat → Nat → Int} {K : Int} {s : Nat} {R1 R2 : Nat → List Int} {D D' : Nat → Nat → Prop} {w pay : Int} {pr : Nat → Nat → Int} (h : OFs lp n op C' E K s R1 R2 D w pay pr) (h1 : ∀ fr to, D fr to → D' fr to) (h2 : ∀ fr to k, D' fr to → OFk lp n op C' E K s R1 R2 fr to k → D fr to) : OFs lp n op C' E K s R1 R2 D' w pay pr := by
  rcases h with ⟨e, q⟩ | ⟨hB, ⟨fr, to, hd, hk, hp⟩, q⟩
  · exact Or.inl ⟨e, fun fr to k hd hk => q fr to k (h2 fr to k hd hk) hk⟩
  · exact Or.inr ⟨hB, ⟨fr, to, h1 fr to hd, hk, hp⟩, fun fr to k hd hk => q fr to k (h2 fr to k hd hk) hk⟩
theorem OFs_put {lp n : Nat} {op : Nat → Prop} {C' E : Nat → Nat → Int} {K : Int} {s : Nat} {R1 R2 : Nat → List Int} {D D' : Nat → Nat → Prop} {w pay : Int} {pr : Nat → Nat → Int} {fr0 to0 : Nat} {k0 : Int} (h : OFs lp n op C' E K s R1 R2 D w pay pr) (h1 : ∀ fr to, D fr to → D' fr to) (h2 : ∀ fr to, D' fr to → D fr to ∨ (fr = fr0 ∧ to = to0)) (h3 : D' fr0 to0) (hk : OFk lp n op C' E K s R1 R2 fr0 to0 k0) (hB : k0 < BIG) : OFs lp n op C' E K s R1 R2 D' (if k0 < w then k0 else w) (if k0 < w then pr fr0 to0 else pay) pr := by
  by_cases c : k0 < w
  · rw [if_pos c, if_pos c]
    refine Or.inr ⟨hB, ⟨fr0, to0, h3, hk, rfl⟩, fun fr to k hd hk' => ?_⟩
    rcases h2 fr to hd with g | ⟨g1, g2⟩
    · rcases h with ⟨e, q⟩ | ⟨hB', -, q⟩
      · exact absurd hk' (q fr to k g)
      · have := q fr to k g hk'
        omega
    · rw [g1, g2] at hk'
      have := OFk_fun hk hk'
      omega
  · rw [if_neg c, if_neg c]
    rcases h with ⟨e, q⟩ | ⟨hB', ⟨fr, to, hd, hk', hp⟩, q⟩
    · omega
    · refine Or.inr ⟨hB', ⟨fr, to, h1 fr to hd, hk', hp⟩, fun fr to k hd hk'' => ?_⟩
      rcases h2 fr to hd with g | ⟨g1, g2⟩
      · exact q fr to k g hk''
      · rw [g1, g2] at hk''
        have := OFk_fun hk hk''
        omega
theorem OFs_end {lp n : Nat} {op : Nat → Prop} {C' E : Nat → Nat → Int} {K : Int} {s : Nat} {R1 R2 : Nat → List Int} {D : Nat → Nat → Prop} {w pay : Int} {pr : Nat → Nat → Int} (h : OFs lp n op C' E K s R1 R2 D w pay pr) (hD : ∀ fr to k, OFk lp n op C' E K s R1 R2 fr to k → D fr to) : OFb lp n op C' E K s R1 R2 w pay pr := by
  rcases h with ⟨e, q⟩ | ⟨hB, ⟨fr, to, hd, hk, hp⟩, q⟩
  · exact Or.inl ⟨e, fun fr to k hk => q fr to k (hD fr to k hk) hk⟩
  · exact Or.inr ⟨hB, ⟨fr, to, hk, hp⟩, fun fr to k hk => q fr to k (hD fr to k hk) hk⟩
/-- keys of rows are small -/
theorem ROW_key {lp : Nat} {op : Nat → Prop} {C E : Nat → Nat → Int} {P K : Int} {lu : Nat → Int} {p : Nat} {l : List Int} (hp : p ≤ 24) (hC : ∀ p f, 0 ≤ C p f ∧ C p f ≤ 297) (hE : ∀ p f, 0 ≤ E p f ∧ E p f ≤ 600) (hK : K ≤ 999) (h0 : ∀ q, 0 ≤ lu q) (h : ROW lp op C E P K lu p l) : ∀ y, y ∈ l → 0 ≤ y ∧ y < 1152921504606846976 := by
  intro y hy
  obtain ⟨m, c, e, b, hx, ek, he, hc⟩ := h.1.1 y hy
  have r := PX_rng hp hC hE hx
  have u0 := h0 p
  rw [ek]
  unfold kf
  omega
theorem EROW_key {lp n : Nat} {op : Nat → Prop} {C E : Nat → Nat → Int} {P K : Int} {lf : Nat → Int} {q : Nat} {l : List Int} (hn : n ≤ 24) (hC : ∀ p f, 0 ≤ C p f ∧ C p f ≤ 297) (hE : ∀ p f, 0 ≤ E p f ∧ E p f ≤ 600) (hK : K ≤ 999) (h0 : ∀ q, 0 ≤ lf q) (h : EROW lp op C E P K lf n q l) : ∀ y, y ∈ l → 0 ≤ y ∧ y < 1152921504606846976 := by
  intro y hy
  obtain ⟨m, c, e, b, hx, ek, he, hc⟩ := h.1.1 y hy
  have r := PX_up_b hn hC hE hx
  have u0 := h0 q
  rw [ek]
  unfold kf
  omega
theorem RR_len {Z : jZ} {I : jI} {L : jL} {a b0 b1 b2 b4 b5 b6 b7 p : Nat} {R : Nat → List Int} (w : WD Z I) (ka : jk Z a 7) (hc : RCs Z a b0 b1 b2 b4 b5 b6 b7) (hR : RRb I L b0 b1 b2 R) (hp : p < 25) : (R p).length ≤ 2000000 := by
  obtain ⟨g0, g1, g2, g4, g5, g6, g7⟩ := hc
  obtain ⟨c0, c1, c2, c4, c5, r0, r1, r2, r4, r5, kk0, kk1, kk2, kk4, kk5, n1, n2, n4, n5, n12, n14, n15, n24, n25, n45, t1, t2, t3, t4, t5, t6⟩ := rows_at w ka
  cases g0.symm.trans r0; cases g1.symm.trans r1; cases g2.symm.trans r2
  have a1 := (hR p hp).1
  have a2 := t4 p hp
  by_cases c : 0 < (I b2 p).toInt
  · have := a2.2 c
    omega
  · omega
theorem RR_fr {W : List (Nat × Nat)} {Z : jZ} {I I' : jI} {L L' : jL} {a b0 b1 b2 b4 b5 b6 b7 : Nat} {R : Nat → List Int} (w : WD Z I) (ka : jk Z a 7) (hc : RCs Z a b0 b1 b2 b4 b5 b6 b7) (f : FR W Z I Z I') (n1 : (7, 1) ∉ W) (n2 : (7, 2) ∉ W) (hL : L' b0 = L b0) (hR : RRb I L b0 b1 b2 R) : RRb I' L' b0 b1 b2 R := by
  obtain ⟨g0, g1, g2, g4, g5, g6, g7⟩ := hc
  obtain ⟨c0, c1, c2, c4, c5, r0, r1, r2, r4, r5, kk0, kk1, kk2, kk4, kk5, -⟩ := rows_at w ka
  cases g0.symm.trans r0; cases g1.symm.trans r1; cases g2.symm.trans r2
  have i1 : I' b1 = I b1 := f.2.2.2 a 7 1 b1 ka g1 (by rw [kk1.2]; rfl) rfl n1
  have i2 : I' b2 = I b2 := f.2.2.2 a 7 2 b2 ka g2 (by rw [kk2.2]; rfl) rfl n2
  intro p hp
  rw [i1, i2, hL]
  exact hR p hp
theorem l_ge {x y : Int64} {A B : Int} (hx : x.toInt = A) (hy : y.toInt = B) : (0 ≤ lg_cmp x y) ↔ B ≤ A := by
  subst hx; subst hy
  have g : (x > y) ↔ y.toInt < x.toInt := Int64.lt_iff_toInt_lt
  have e : (x = y) ↔ x.toInt = y.toInt := ⟨fun h => by rw [h], fun h => Int64.toInt_inj.mp h⟩
  unfold lg_cmp
  by_cases c : x > y
  · rw [if_pos c]
    have := g.mp c
    exact ⟨fun _ => by omega, fun _ => by decide⟩
  · rw [if_neg c]
    have c' := (not_congr g).mp c
    by_cases d : x = y
    · rw [if_pos d]
      have := e.mp d
      exact ⟨fun _ => by omega, fun _ => by decide⟩
    · rw [if_neg d]
      have := (not_congr e).mp d
      exact ⟨fun h => absurd h (by decide), fun h => by omega⟩
def Wo : List (Nat × Nat) := [(3, 2), (6, 12), (6, 13), (8, 8)]
/-- the price function when step s asks v -/
def PRV (c0 c1 : List Int) (a r st w : Nat → Int32) (x : Int → Int → Int32) (s v : Nat) : Int → Int → Int → Int → Int → Int := PRf c0 c1 (updA a s (Int32.ofNat v)) r st w x
theorem PRV_off {c0 c1 : List Int} {a r st w : Nat → Int32} {x : Int → Int → Int32} {s v : Nat} {ld : Int} (lw q fr lp : Int) (h0 : 0 ≤ q) (h : q ≠ (s : Int)) : PRV c0 c1 a r st w x s v lw q fr lp ld = PRf c0 c1 a r st w x lw q fr lp ld := PRf_updA (by omega)
theorem upd_rng {a : Nat → Int32} {s v : Nat} (hv : v < 21) (ha : ∀ k, 0 ≤ (a k).toInt ∧ (a k).toInt ≤ 20) (k : Nat) : 0 ≤ (updA a s (Int32.ofNat v) k).toInt ∧ (updA a s (Int32.ofNat v) k).toInt ≤ 20 := by
  unfold updA
  by_cases c : k = s
  · rw [if_pos c, show (Int32.ofNat v).toInt = (v : Int) from i_nI (n := v) (by omega)]
    omega
  · rw [if_neg c]
    exact ha k
end
section
/-! ===== offers: one pilgrim's ===== -/
def OC (Z : jZ) (I0 : jI) (L0 : jL) (v0 v8 u0 u1 u2 u3 u4 u41 u5 u8 : Nat) (uL0 uC0 uL1 uC1 : Nat) (c0 c1 : List Int) (t4 t5 t6 t7 lp n : Nat) (op : Nat → Prop) (PR : Int → Int → Int → Int → Int → Int) (E : Nat → Nat → Int) (lu lf : Nat → Int) (ld K P : Int) (s u9 u10 u11 u12 u13 : Nat) (b0 b1 b2 b4 b5 b6 b7 d0 d1 d2 d4 d5 d6 d7 : Nat) (R R2 : Nat → List Int) : Prop := (WD Z I0) ∧ (jk Z v0 6) ∧ (jr Z v0 0 = some v8) ∧ (STc Z v8 u0 u1 u2 u3 u4 u41 u5 u8) ∧ (LWs Z I0 v8 uL0 uC0 uL1 uC1 c0 c1) ∧ ((I0 v8 9).toInt = (n : Int)) ∧ (n ≤ 24) ∧ (PR = PRf c0 c1 (I0 u2) (I0 u0) (I0 u1) (I0 u3) (xLc (I0 u41) (I0 u5))) ∧ (MVs Z I0 v0 t4 t5 t6 t7 lp n op (CCp PR ld) E lu) ∧ (lp ≤ 3) ∧ (∀ p f, 0 ≤ E p f ∧ E p f ≤ 600) ∧ (jr Z v0 9 = some u9) ∧ (jr Z v0 10 = some u10) ∧ (RCs Z u9 b0 b1 b2 b4 b5 b6 b7) ∧ (RCs Z u10 d0 d1 d2 d4 d5 d6 d7) ∧ (RRb I0 L0 b0 b1 b2 R) ∧ (RRb I0 L0 d0 d1 d2 R2) ∧ (∀ q, q ≤ s → ROW lp op (CCp PR ld) E P K lu q (R q)) ∧ (∀ q, s < q → q ≤ n → EROW lp op (CCp PR ld) E P K lf n q (R2 q)) ∧ (s < n) ∧ (LUs lp n op E lu) ∧ (LFs lp n op E lf) ∧ ((I0 v0 1).toInt = K) ∧ ((I0 v0 2).toInt = P) ∧ (0 ≤ K ∧ K ≤ 999) ∧ (0 ≤ P ∧ P ≤ 999) ∧ ((I0 v0 14).toInt = ld) ∧ (jr Z v0 11 = some u11) ∧ (jr Z v0 12 = some u12) ∧ (jr Z v0 13 = some u13) ∧ (op 0)
theorem OC.w0 {Z : jZ} {I0 : jI} {L0 : jL} {v0 v8 u0 u1 u2 u3 u4 u41 u5 u8 : Nat} {uL0 uC0 uL1 uC1 : Nat} {c0 c1 : List Int} {t4 t5 t6 t7 lp n : Nat} {op : Nat → Prop} {PR : Int → Int → Int → Int → Int → Int} {E : Nat → Nat → Int} {lu lf : Nat → Int} {ld K P : Int} {s u9 u10 u11 u12 u13 : Nat} {b0 b1 b2 b4 b5 b6 b7 d0 d1 d2 d4 d5 d6 d7 : Nat} {R R2 : Nat → List Int} (h : OC Z I0 L0 v0 v8 u0 u1 u2 u3 u4 u41 u5 u8 uL0 uC0 uL1 uC1 c0 c1 t4 t5 t6 t7 lp n op PR E lu lf ld K P s u9 u10 u11 u12 u13 b0 b1 b2 b4 b5 b6 b7 d0 d1 d2 d4 d5 d6 d7 R R2) : WD Z I0 := h.1
theorem OC.kv {Z : jZ} {I0 : jI} {L0 : jL} {v0 v8 u0 u1 u2 u3 u4 u41 u5 u8 : Nat} {uL0 uC0 uL1 uC1 : Nat} {c0 c1 : List Int} {t4 t5 t6 t7 lp n : Nat} {op : Nat → Prop} {PR : Int → Int → Int → Int → Int → Int} {E : Nat → Nat → Int} {lu lf : Nat → Int} {ld K P : Int} {s u9 u10 u11 u12 u13 : Nat} {b0 b1 b2 b4 b5 b6 b7 d0 d1 d2 d4 d5 d6 d7 : Nat} {R R2 : Nat → List Int} (h : OC Z I0 L0 v0 v8 u0 u1 u2 u3 u4 u41 u5 u8 uL0 uC0 uL1 uC1 c0 c1 t4 t5 t6 t7 lp n op PR E lu lf ld K P s u9 u10 u11 u12 u13 b0 b1 b2 b4 b5 b6 b7 d0 d1 d2 d4 d5 d6 d7 R R2) : jk Z v0 6 := h.2.1
theorem OC.h8 {Z : jZ} {I0 : jI} {L0 : jL} {v0 v8 u0 u1 u2 u3 u4 u41 u5 u8 : Nat} {uL0 uC0 uL1 uC1 : Nat} {c0 c1 : List Int} {t4 t5 t6 t7 lp n : Nat} {op : Nat → Prop} {PR : Int → Int → Int → Int → Int → Int} {E : Nat → Nat → Int} {lu lf : Nat → Int} {ld K P : Int} {s u9 u10 u11 u12 u13 : Nat} {b0 b1 b2 b4 b5 b6 b7 d0 d1 d2 d4 d5 d6 d7 : Nat} {R R2 : Nat → List Int} (h : OC Z I0 L0 v0 v8 u0 u1 u2 u3 u4 u41 u5 u8 uL0 uC0 uL1 uC1 c0 c1 t4 t5 t6 t7 lp n op PR E lu lf ld K P s u9 u10 u11 u12 u13 b0 b1 b2 b4 b5 b6 b7 d0 d1 d2 d4 d5 d6 d7 R R2) : jr Z v0 0 = some v8 := h.2.2.1
theorem OC.S {Z : jZ} {I0 : jI} {L0 : jL} {v0 v8 u0 u1 u2 u3 u4 u41 u5 u8 : Nat} {uL0 uC0 uL1 uC1 : Nat} {c0 c1 : List Int} {t4 t5 t6 t7 lp n : Nat} {op : Nat → Prop} {PR : Int → Int → Int → Int → Int → Int} {E : Nat → Nat → Int} {lu lf : Nat → Int} {ld K P : Int} {s u9 u10 u11 u12 u13 : Nat} {b0 b1 b2 b4 b5 b6 b7 d0 d1 d2 d4 d5 d6 d7 : Nat} {R R2 : Nat → List Int} (h : OC Z I0 L0 v0 v8 u0 u1 u2 u3 u4 u41 u5 u8 uL0 uC0 uL1 uC1 c0 c1 t4 t5 t6 t7 lp n op PR E lu lf ld K P s u9 u10 u11 u12 u13 b0 b1 b2 b4 b5 b6 b7 d0 d1 d2 d4 d5 d6 d7 R R2) : STc Z v8 u0 u1 u2 u3 u4 u41 u5 u8 := h.2.2.2.1
theorem OC.hl {Z : jZ} {I0 : jI} {L0 : jL} {v0 v8 u0 u1 u2 u3 u4 u41 u5 u8 : Nat} {uL0 uC0 uL1 uC1 : Nat} {c0 c1 : List Int} {t4 t5 t6 t7 lp n : Nat} {op : Nat → Prop} {PR : Int → Int → Int → Int → Int → Int} {E : Nat → Nat → Int} {lu lf : Nat → Int} {ld K P : Int} {s u9 u10 u11 u12 u13 : Nat} {b0 b1 b2 b4 b5 b6 b7 d0 d1 d2 d4 d5 d6 d7 : Nat} {R R2 : Nat → List Int} (h : OC Z I0 L0 v0 v8 u0 u1 u2 u3 u4 u41 u5 u8 uL0 uC0 uL1 uC1 c0 c1 t4 t5 t6 t7 lp n op PR E lu lf ld K P s u9 u10 u11 u12 u13 b0 b1 b2 b4 b5 b6 b7 d0 d1 d2 d4 d5 d6 d7 R R2) : LWs Z I0 v8 uL0 uC0 uL1 uC1 c0 c1 := h.2.2.2.2.1
theorem OC.hn {Z : jZ} {I0 : jI} {L0 : jL} {v0 v8 u0 u1 u2 u3 u4 u41 u5 u8 : Nat} {uL0 uC0 uL1 uC1 : Nat} {c0 c1 : List Int} {t4 t5 t6 t7 lp n : Nat} {op : Nat → Prop} {PR : Int → Int → Int → Int → Int → Int} {E : Nat → Nat → Int} {lu lf : Nat → Int} {ld K P : Int} {s u9 u10 u11 u12 u13 : Nat} {b0 b1 b2 b4 b5 b6 b7 d0 d1 d2 d4 d5 d6 d7 : Nat} {R R2 : Nat → List Int} (h : OC Z I0 L0 v0 v8 u0 u1 u2 u3 u4 u41 u5 u8 uL0 uC0 uL1 uC1 c0 c1 t4 t5 t6 t7 lp n op PR E lu lf ld K P s u9 u10 u11 u12 u13 b0 b1 b2 b4 b5 b6 b7 d0 d1 d2 d4 d5 d6 d7 R R2) : (I0 v8 9).toInt = (n : Int) := h.2.2.2.2.2.1
theorem OC.n24 {Z : jZ} {I0 : jI} {L0 : jL} {v0 v8 u0 u1 u2 u3 u4 u41 u5 u8 : Nat} {uL0 uC0 uL1 uC1 : Nat} {c0 c1 : List Int} {t4 t5 t6 t7 lp n : Nat} {op : Nat → Prop} {PR : Int → Int → Int → Int → Int → Int} {E : Nat → Nat → Int} {lu lf : Nat → Int} {ld K P : Int} {s u9 u10 u11 u12 u13 : Nat} {b0 b1 b2 b4 b5 b6 b7 d0 d1 d2 d4 d5 d6 d7 : Nat} {R R2 : Nat → List Int} (h : OC Z I0 L0 v0 v8 u0 u1 u2 u3 u4 u41 u5 u8 uL0 uC0 uL1 uC1 c0 c1 t4 t5 t6 t7 lp n op PR E lu lf ld K P s u9 u10 u11 u12 u13 b0 b1 b2 b4 b5 b6 b7 d0 d1 d2 d4 d5 d6 d7 R R2) : n ≤ 24 := h.2.2.2.2.2.2.1
theorem OC.ePR {Z : jZ} {I0 : jI} {L0 : jL} {v0 v8 u0 u1 u2 u3 u4 u41 u5 u8 : Nat} {uL0 uC0 uL1 uC1 : Nat} {c0 c1 : List Int} {t4 t5 t6 t7 lp n : Nat} {op : Nat → Prop} {PR : Int → Int → Int → Int → Int → Int} {E : Nat → Nat → Int} {lu lf : Nat → Int} {ld K P : Int} {s u9 u10 u11 u12 u13 : Nat} {b0 b1 b2 b4 b5 b6 b7 d0 d1 d2 d4 d5 d6 d7 : Nat} {R R2 : Nat → List Int} (h : OC Z I0 L0 v0 v8 u0 u1 u2 u3 u4 u41 u5 u8 uL0 uC0 uL1 uC1 c0 c1 t4 t5 t6 t7 lp n op PR E lu lf ld K P s u9 u10 u11 u12 u13 b0 b1 b2 b4 b5 b6 b7 d0 d1 d2 d4 d5 d6 d7 R R2) : PR = PRf c0 c1 (I0 u2) (I0 u0) (I0 u1) (I0 u3) (xLc (I0 u41) (I0 u5)) := h.2.2.2.2.2.2.2.1
theorem OC.hM {Z : jZ} {I0 : jI} {L0 : jL} {v0 v8 u0 u1 u2 u3 u4 u41 u5 u8 : Nat} {uL0 uC0 uL1 uC1 : Nat} {c0 c1 : List Int} {t4 t5 t6 t7 lp n : Nat} {op : Nat → Prop} {PR : Int → Int → Int → Int → Int → Int} {E : Nat → Nat → Int} {lu lf : Nat → Int} {ld K P : Int} {s u9 u10 u11 u12 u13 : Nat} {b0 b1 b2 b4 b5 b6 b7 d0 d1 d2 d4 d5 d6 d7 : Nat} {R R2 : Nat → List Int} (h : OC Z I0 L0 v0 v8 u0 u1 u2 u3 u4 u41 u5 u8 uL0 uC0 uL1 uC1 c0 c1 t4 t5 t6 t7 lp n op PR E lu lf ld K P s u9 u10 u11 u12 u13 b0 b1 b2 b4 b5 b6 b7 d0 d1 d2 d4 d5 d6 d7 R R2) : MVs Z I0 v0 t4 t5 t6 t7 lp n op (CCp PR ld) E lu := h.2.2.2.2.2.2.2.2.1
theorem OC.lp3 {Z : jZ} {I0 : jI} {L0 : jL} {v0 v8 u0 u1 u2 u3 u4 u41 u5 u8 : Nat} {uL0 uC0 uL1 uC1 : Nat} {c0 c1 : List Int} {t4 t5 t6 t7 lp n : Nat} {op : Nat → Prop} {PR : Int → Int → Int → Int → Int → Int} {E : Nat → Nat → Int} {lu lf : Nat → Int} {ld K P : Int} {s u9 u10 u11 u12 u13 : Nat} {b0 b1 b2 b4 b5 b6 b7 d0 d1 d2 d4 d5 d6 d7 : Nat} {R R2 : Nat → List Int} (h : OC Z I0 L0 v0 v8 u0 u1 u2 u3 u4 u41 u5 u8 uL0 uC0 uL1 uC1 c0 c1 t4 t5 t6 t7 lp n op PR E lu lf ld K P s u9 u10 u11 u12 u13 b0 b1 b2 b4 b5 b6 b7 d0 d1 d2 d4 d5 d6 d7 R R2) : lp ≤ 3 := h.2.2.2.2.2.2.2.2.2.1
theorem OC.hE {Z : jZ} {I0 : jI} {L0 : jL} {v0 v8 u0 u1 u2 u3 u4 u41 u5 u8 : Nat} {uL0 uC0 uL1 uC1 : Nat} {c0 c1 : List Int} {t4 t5 t6 t7 lp n : Nat} {op : Nat → Prop} {PR : Int → Int → Int → Int → Int → Int} {E : Nat → Nat → Int} {lu lf : Nat → Int} {ld K P : Int} {s u9 u10 u11 u12 u13 : Nat} {b0 b1 b2 b4 b5 b6 b7 d0 d1 d2 d4 d5 d6 d7 : Nat} {R R2 : Nat → List Int} (h : OC Z I0 L0 v0 v8 u0 u1 u2 u3 u4 u41 u5 u8 uL0 uC0 uL1 uC1 c0 c1 t4 t5 t6 t7 lp n op PR E lu lf ld K P s u9 u10 u11 u12 u13 b0 b1 b2 b4 b5 b6 b7 d0 d1 d2 d4 d5 d6 d7 R R2) : ∀ p f, 0 ≤ E p f ∧ E p f ≤ 600 := h.2.2.2.2.2.2.2.2.2.2.1
theorem OC.h9 {Z : jZ} {I0 : jI} {L0 : jL} {v0 v8 u0 u1 u2 u3 u4 u41 u5 u8 : Nat} {uL0 uC0 uL1 uC1 : Nat} {c0 c1 : List Int} {t4 t5 t6 t7 lp n : Nat} {op : Nat → Prop} {PR : Int → Int → Int → Int → Int → Int} {E : Nat → Nat → Int} {lu lf : Nat → Int} {ld K P : Int} {s u9 u10 u11 u12 u13 : Nat} {b0 b1 b2 b4 b5 b6 b7 d0 d1 d2 d4 d5 d6 d7 : Nat} {R R2 : Nat → List Int} (h : OC Z I0 L0 v0 v8 u0 u1 u2 u3 u4 u41 u5 u8 uL0 uC0 uL1 uC1 c0 c1 t4 t5 t6 t7 lp n op PR E lu lf ld K P s u9 u10 u11 u12 u13 b0 b1 b2 b4 b5 b6 b7 d0 d1 d2 d4 d5 d6 d7 R R2) : jr Z v0 9 = some u9 := h.2.2.2.2.2.2.2.2.2.2.2.1
theorem OC.h10 {Z : jZ} {I0 : jI} {L0 : jL} {v0 v8 u0 u1 u2 u3 u4 u41 u5 u8 : Nat} {uL0 uC0 uL1 uC1 : Nat} {c0 c1 : List Int} {t4 t5 t6 t7 lp n : Nat} {op : Nat → Prop} {PR : Int → Int → Int → Int → Int → Int} {E : Nat → Nat → Int} {lu lf : Nat → Int} {ld K P : Int} {s u9 u10 u11 u12 u13 : Nat} {b0 b1 b2 b4 b5 b6 b7 d0 d1 d2 d4 d5 d6 d7 : Nat} {R R2 : Nat → List Int} (h : OC Z I0 L0 v0 v8 u0 u1 u2 u3 u4 u41 u5 u8 uL0 uC0 uL1 uC1 c0 c1 t4 t5 t6 t7 lp n op PR E lu lf ld K P s u9 u10 u11 u12 u13 b0 b1 b2 b4 b5 b6 b7 d0 d1 d2 d4 d5 d6 d7 R R2) : jr Z v0 10 = some u10 := h.2.2.2.2.2.2.2.2.2.2.2.2.1
theorem OC.r9 {Z : jZ} {I0 : jI} {L0 : jL} {v0 v8 u0 u1 u2 u3 u4 u41 u5 u8 : Nat} {uL0 uC0 uL1 uC1 : Nat} {c0 c1 : List Int} {t4 t5 t6 t7 lp n : Nat} {op : Nat → Prop} {PR : Int → Int → Int → Int → Int → Int} {E : Nat → Nat → Int} {lu lf : Nat → Int} {ld K P : Int} {s u9 u10 u11 u12 u13 : Nat} {b0 b1 b2 b4 b5 b6 b7 d0 d1 d2 d4 d5 d6 d7 : Nat} {R R2 : Nat → List Int} (h : OC Z I0 L0 v0 v8 u0 u1 u2 u3 u4 u41 u5 u8 uL0 uC0 uL1 uC1 c0 c1 t4 t5 t6 t7 lp n op PR E lu lf ld K P s u9 u10 u11 u12 u13 b0 b1 b2 b4 b5 b6 b7 d0 d1 d2 d4 d5 d6 d7 R R2) : RCs Z u9 b0 b1 b2 b4 b5 b6 b7 := h.2.2.2.2.2.2.2.2.2.2.2.2.2.1
theorem OC.r10 {Z : jZ} {I0 : jI} {L0 : jL} {v0 v8 u0 u1 u2 u3 u4 u41 u5 u8 : Nat} {uL0 uC0 uL1 uC1 : Nat} {c0 c1 : List Int} {t4 t5 t6 t7 lp n : Nat} {op : Nat → Prop} {PR : Int → Int → Int → Int → Int → Int} {E : Nat → Nat → Int} {lu lf : Nat → Int} {ld K P : Int} {s u9 u10 u11 u12 u13 : Nat} {b0 b1 b2 b4 b5 b6 b7 d0 d1 d2 d4 d5 d6 d7 : Nat} {R R2 : Nat → List Int} (h : OC Z I0 L0 v0 v8 u0 u1 u2 u3 u4 u41 u5 u8 uL0 uC0 uL1 uC1 c0 c1 t4 t5 t6 t7 lp n op PR E lu lf ld K P s u9 u10 u11 u12 u13 b0 b1 b2 b4 b5 b6 b7 d0 d1 d2 d4 d5 d6 d7 R R2) : RCs Z u10 d0 d1 d2 d4 d5 d6 d7 := h.2.2.2.2.2.2.2.2.2.2.2.2.2.2.1
theorem OC.hR {Z : jZ} {I0 : jI} {L0 : jL} {v0 v8 u0 u1 u2 u3 u4 u41 u5 u8 : Nat} {uL0 uC0 uL1 uC1 : Nat} {c0 c1 : List Int} {t4 t5 t6 t7 lp n : Nat} {op : Nat → Prop} {PR : Int → Int → Int → Int → Int → Int} {E : Nat → Nat → Int} {lu lf : Nat → Int} {ld K P : Int} {s u9 u10 u11 u12 u13 : Nat} {b0 b1 b2 b4 b5 b6 b7 d0 d1 d2 d4 d5 d6 d7 : Nat} {R R2 : Nat → List Int} (h : OC Z I0 L0 v0 v8 u0 u1 u2 u3 u4 u41 u5 u8 uL0 uC0 uL1 uC1 c0 c1 t4 t5 t6 t7 lp n op PR E lu lf ld K P s u9 u10 u11 u12 u13 b0 b1 b2 b4 b5 b6 b7 d0 d1 d2 d4 d5 d6 d7 R R2) : RRb I0 L0 b0 b1 b2 R := h.2.2.2.2.2.2.2.2.2.2.2.2.2.2.2.1
theorem OC.hR2 {Z : jZ} {I0 : jI} {L0 : jL} {v0 v8 u0 u1 u2 u3 u4 u41 u5 u8 : Nat} {uL0 uC0 uL1 uC1 : Nat} {c0 c1 : List Int} {t4 t5 t6 t7 lp n : Nat} {op : Nat → Prop} {PR : Int → Int → Int → Int → Int → Int} {E : Nat → Nat → Int} {lu lf : Nat → Int} {ld K P : Int} {s u9 u10 u11 u12 u13 : Nat} {b0 b1 b2 b4 b5 b6 b7 d0 d1 d2 d4 d5 d6 d7 : Nat} {R R2 : Nat → List Int} (h : OC Z I0 L0 v0 v8 u0 u1 u2 u3 u4 u41 u5 u8 uL0 uC0 uL1 uC1 c0 c1 t4 t5 t6 t7 lp n op PR E lu lf ld K P s u9 u10 u11 u12 u13 b0 b1 b2 b4 b5 b6 b7 d0 d1 d2 d4 d5 d6 d7 R R2) : RRb I0 L0 d0 d1 d2 R2 := h.2.2.2.2.2.2.2.2.2.2.2.2.2.2.2.2.1
theorem OC.hW {Z : jZ} {I0 : jI} {L0 : jL} {v0 v8 u0 u1 u2 u3 u4 u41 u5 u8 : Nat} {uL0 uC0 uL1 uC1 : Nat} {c0 c1 : List Int} {t4 t5 t6 t7 lp n : Nat} {op : Nat → Prop} {PR : Int → Int → Int → Int → Int → Int} {E : Nat → Nat → Int} {lu lf : Nat → Int} {ld K P : Int} {s u9 u10 u11 u12 u13 : Nat} {b0 b1 b2 b4 b5 b6 b7 d0 d1 d2 d4 d5 d6 d7 : Nat} {R R2 : Nat → List Int} (h : OC Z I0 L0 v0 v8 u0 u1 u2 u3 u4 u41 u5 u8 uL0 uC0 uL1 uC1 c0 c1 t4 t5 t6 t7 lp n op PR E lu lf ld K P s u9 u10 u11 u12 u13 b0 b1 b2 b4 b5 b6 b7 d0 d1 d2 d4 d5 d6 d7 R R2) : ∀ q, q ≤ s → ROW lp op (CCp PR ld) E P K lu q (R q) := h.2.2.2.2.2.2.2.2.2.2.2.2.2.2.2.2.2.1
theorem OC.hW2 {Z : jZ} {I0 : jI} {L0 : jL} {v0 v8 u0 u1 u2 u3 u4 u41 u5 u8 : Nat} {uL0 uC0 uL1 uC1 : Nat} {c0 c1 : List Int} {t4 t5 t6 t7 lp n : Nat} {op : Nat → Prop} {PR : Int → Int → Int → Int → Int → Int} {E : Nat → Nat → Int} {lu lf : Nat → Int} {ld K P : Int} {s u9 u10 u11 u12 u13 : Nat} {b0 b1 b2 b4 b5 b6 b7 d0 d1 d2 d4 d5 d6 d7 : Nat} {R R2 : Nat → List Int} (h : OC Z I0 L0 v0 v8 u0 u1 u2 u3 u4 u41 u5 u8 uL0 uC0 uL1 uC1 c0 c1 t4 t5 t6 t7 lp n op PR E lu lf ld K P s u9 u10 u11 u12 u13 b0 b1 b2 b4 b5 b6 b7 d0 d1 d2 d4 d5 d6 d7 R R2) : ∀ q, s < q → q ≤ n → EROW lp op (CCp PR ld) E P K lf n q (R2 q) := h.2.2.2.2.2.2.2.2.2.2.2.2.2.2.2.2.2.2.1
theorem OC.hs {Z : jZ} {I0 : jI} {L0 : jL} {v0 v8 u0 u1 u2 u3 u4 u41 u5 u8 : Nat} {uL0 uC0 uL1 uC1 : Nat} {c0 c1 : List Int} {t4 t5 t6 t7 lp n : Nat} {op : Nat → Prop} {PR : Int → Int → Int → Int → Int → Int} {E : Nat → Nat → Int} {lu lf : Nat → Int} {ld K P : Int} {s u9 u10 u11 u12 u13 : Nat} {b0 b1 b2 b4 b5 b6 b7 d0 d1 d2 d4 d5 d6 d7 : Nat} {R R2 : Nat → List Int} (h : OC Z I0 L0 v0 v8 u0 u1 u2 u3 u4 u41 u5 u8 uL0 uC0 uL1 uC1 c0 c1 t4 t5 t6 t7 lp n op PR E lu lf ld K P s u9 u10 u11 u12 u13 b0 b1 b2 b4 b5 b6 b7 d0 d1 d2 d4 d5 d6 d7 R R2) : s < n := h.2.2.2.2.2.2.2.2.2.2.2.2.2.2.2.2.2.2.2.1
theorem OC.hu {Z : jZ} {I0 : jI} {L0 : jL} {v0 v8 u0 u1 u2 u3 u4 u41 u5 u8 : Nat} {uL0 uC0 uL1 uC1 : Nat} {c0 c1 : List Int} {t4 t5 t6 t7 lp n : Nat} {op : Nat → Prop} {PR : Int → Int → Int → Int → Int → Int} {E : Nat → Nat → Int} {lu lf : Nat → Int} {ld K P : Int} {s u9 u10 u11 u12 u13 : Nat} {b0 b1 b2 b4 b5 b6 b7 d0 d1 d2 d4 d5 d6 d7 : Nat} {R R2 : Nat → List Int} (h : OC Z I0 L0 v0 v8 u0 u1 u2 u3 u4 u41 u5 u8 uL0 uC0 uL1 uC1 c0 c1 t4 t5 t6 t7 lp n op PR E lu lf ld K P s u9 u10 u11 u12 u13 b0 b1 b2 b4 b5 b6 b7 d0 d1 d2 d4 d5 d6 d7 R R2) : LUs lp n op E lu := h.2.2.2.2.2.2.2.2.2.2.2.2.2.2.2.2.2.2.2.2.1
theorem OC.hf {Z : jZ} {I0 : jI} {L0 : jL} {v0 v8 u0 u1 u2 u3 u4 u41 u5 u8 : Nat} {uL0 uC0 uL1 uC1 : Nat} {c0 c1 : List Int} {t4 t5 t6 t7 lp n : Nat} {op : Nat → Prop} {PR : Int → Int → Int → Int → Int → Int} {E : Nat → Nat → Int} {lu lf : Nat → Int} {ld K P : Int} {s u9 u10 u11 u12 u13 : Nat} {b0 b1 b2 b4 b5 b6 b7 d0 d1 d2 d4 d5 d6 d7 : Nat} {R R2 : Nat → List Int} (h : OC Z I0 L0 v0 v8 u0 u1 u2 u3 u4 u41 u5 u8 uL0 uC0 uL1 uC1 c0 c1 t4 t5 t6 t7 lp n op PR E lu lf ld K P s u9 u10 u11 u12 u13 b0 b1 b2 b4 b5 b6 b7 d0 d1 d2 d4 d5 d6 d7 R R2) : LFs lp n op E lf := h.2.2.2.2.2.2.2.2.2.2.2.2.2.2.2.2.2.2.2.2.2.1
theorem OC.eK {Z : jZ} {I0 : jI} {L0 : jL} {v0 v8 u0 u1 u2 u3 u4 u41 u5 u8 : Nat} {uL0 uC0 uL1 uC1 : Nat} {c0 c1 : List Int} {t4 t5 t6 t7 lp n : Nat} {op : Nat → Prop} {PR : Int → Int → Int → Int → Int → Int} {E : Nat → Nat → Int} {lu lf : Nat → Int} {ld K P : Int} {s u9 u10 u11 u12 u13 : Nat} {b0 b1 b2 b4 b5 b6 b7 d0 d1 d2 d4 d5 d6 d7 : Nat} {R R2 : Nat → List Int} (h : OC Z I0 L0 v0 v8 u0 u1 u2 u3 u4 u41 u5 u8 uL0 uC0 uL1 uC1 c0 c1 t4 t5 t6 t7 lp n op PR E lu lf ld K P s u9 u10 u11 u12 u13 b0 b1 b2 b4 b5 b6 b7 d0 d1 d2 d4 d5 d6 d7 R R2) : (I0 v0 1).toInt = K := h.2.2.2.2.2.2.2.2.2.2.2.2.2.2.2.2.2.2.2.2.2.2.1
theorem OC.eP {Z : jZ} {I0 : jI} {L0 : jL} {v0 v8 u0 u1 u2 u3 u4 u41 u5 u8 : Nat} {uL0 uC0 uL1 uC1 : Nat} {c0 c1 : List Int} {t4 t5 t6 t7 lp n : Nat} {op : Nat → Prop} {PR : Int → Int → Int → Int → Int → Int} {E : Nat → Nat → Int} {lu lf : Nat → Int} {ld K P : Int} {s u9 u10 u11 u12 u13 : Nat} {b0 b1 b2 b4 b5 b6 b7 d0 d1 d2 d4 d5 d6 d7 : Nat} {R R2 : Nat → List Int} (h : OC Z I0 L0 v0 v8 u0 u1 u2 u3 u4 u41 u5 u8 uL0 uC0 uL1 uC1 c0 c1 t4 t5 t6 t7 lp n op PR E lu lf ld K P s u9 u10 u11 u12 u13 b0 b1 b2 b4 b5 b6 b7 d0 d1 d2 d4 d5 d6 d7 R R2) : (I0 v0 2).toInt = P := h.2.2.2.2.2.2.2.2.2.2.2.2.2.2.2.2.2.2.2.2.2.2.2.1
theorem OC.hK {Z : jZ} {I0 : jI} {L0 : jL} {v0 v8 u0 u1 u2 u3 u4 u41 u5 u8 : Nat} {uL0 uC0 uL1 uC1 : Nat} {c0 c1 : List Int} {t4 t5 t6 t7 lp n : Nat} {op : Nat → Prop} {PR : Int → Int → Int → Int → Int → Int} {E : Nat → Nat → Int} {lu lf : Nat → Int} {ld K P : Int} {s u9 u10 u11 u12 u13 : Nat} {b0 b1 b2 b4 b5 b6 b7 d0 d1 d2 d4 d5 d6 d7 : Nat} {R R2 : Nat → List Int} (h : OC Z I0 L0 v0 v8 u0 u1 u2 u3 u4 u41 u5 u8 uL0 uC0 uL1 uC1 c0 c1 t4 t5 t6 t7 lp n op PR E lu lf ld K P s u9 u10 u11 u12 u13 b0 b1 b2 b4 b5 b6 b7 d0 d1 d2 d4 d5 d6 d7 R R2) : 0 ≤ K ∧ K ≤ 999 := h.2.2.2.2.2.2.2.2.2.2.2.2.2.2.2.2.2.2.2.2.2.2.2.2.1
theorem OC.hP {Z : jZ} {I0 : jI} {L0 : jL} {v0 v8 u0 u1 u2 u3 u4 u41 u5 u8 : Nat} {uL0 uC0 uL1 uC1 : Nat} {c0 c1 : List Int} {t4 t5 t6 t7 lp n : Nat} {op : Nat → Prop} {PR : Int → Int → Int → Int → Int → Int} {E : Nat → Nat → Int} {lu lf : Nat → Int} {ld K P : Int} {s u9 u10 u11 u12 u13 : Nat} {b0 b1 b2 b4 b5 b6 b7 d0 d1 d2 d4 d5 d6 d7 : Nat} {R R2 : Nat → List Int} (h : OC Z I0 L0 v0 v8 u0 u1 u2 u3 u4 u41 u5 u8 uL0 uC0 uL1 uC1 c0 c1 t4 t5 t6 t7 lp n op PR E lu lf ld K P s u9 u10 u11 u12 u13 b0 b1 b2 b4 b5 b6 b7 d0 d1 d2 d4 d5 d6 d7 R R2) : 0 ≤ P ∧ P ≤ 999 := h.2.2.2.2.2.2.2.2.2.2.2.2.2.2.2.2.2.2.2.2.2.2.2.2.2.1
theorem OC.el {Z : jZ} {I0 : jI} {L0 : jL} {v0 v8 u0 u1 u2 u3 u4 u41 u5 u8 : Nat} {uL0 uC0 uL1 uC1 : Nat} {c0 c1 : List Int} {t4 t5 t6 t7 lp n : Nat} {op : Nat → Prop} {PR : Int → Int → Int → Int → Int → Int} {E : Nat → Nat → Int} {lu lf : Nat → Int} {ld K P : Int} {s u9 u10 u11 u12 u13 : Nat} {b0 b1 b2 b4 b5 b6 b7 d0 d1 d2 d4 d5 d6 d7 : Nat} {R R2 : Nat → List Int} (h : OC Z I0 L0 v0 v8 u0 u1 u2 u3 u4 u41 u5 u8 uL0 uC0 uL1 uC1 c0 c1 t4 t5 t6 t7 lp n op PR E lu lf ld K P s u9 u10 u11 u12 u13 b0 b1 b2 b4 b5 b6 b7 d0 d1 d2 d4 d5 d6 d7 R R2) : (I0 v0 14).toInt = ld := h.2.2.2.2.2.2.2.2.2.2.2.2.2.2.2.2.2.2.2.2.2.2.2.2.2.2.1
theorem OC.h11 {Z : jZ} {I0 : jI} {L0 : jL} {v0 v8 u0 u1 u2 u3 u4 u41 u5 u8 : Nat} {uL0 uC0 uL1 uC1 : Nat} {c0 c1 : List Int} {t4 t5 t6 t7 lp n : Nat} {op : Nat → Prop} {PR : Int → Int → Int → Int → Int → Int} {E : Nat → Nat → Int} {lu lf : Nat → Int} {ld K P : Int} {s u9 u10 u11 u12 u13 : Nat} {b0 b1 b2 b4 b5 b6 b7 d0 d1 d2 d4 d5 d6 d7 : Nat} {R R2 : Nat → List Int} (h : OC Z I0 L0 v0 v8 u0 u1 u2 u3 u4 u41 u5 u8 uL0 uC0 uL1 uC1 c0 c1 t4 t5 t6 t7 lp n op PR E lu lf ld K P s u9 u10 u11 u12 u13 b0 b1 b2 b4 b5 b6 b7 d0 d1 d2 d4 d5 d6 d7 R R2) : jr Z v0 11 = some u11 := h.2.2.2.2.2.2.2.2.2.2.2.2.2.2.2.2.2.2.2.2.2.2.2.2.2.2.2.1
theorem OC.h12 {Z : jZ} {I0 : jI} {L0 : jL} {v0 v8 u0 u1 u2 u3 u4 u41 u5 u8 : Nat} {uL0 uC0 uL1 uC1 : Nat} {c0 c1 : List Int} {t4 t5 t6 t7 lp n : Nat} {op : Nat → Prop} {PR : Int → Int → Int → Int → Int → Int} {E : Nat → Nat → Int} {lu lf : Nat → Int} {ld K P : Int} {s u9 u10 u11 u12 u13 : Nat} {b0 b1 b2 b4 b5 b6 b7 d0 d1 d2 d4 d5 d6 d7 : Nat} {R R2 : Nat → List Int} (h : OC Z I0 L0 v0 v8 u0 u1 u2 u3 u4 u41 u5 u8 uL0 uC0 uL1 uC1 c0 c1 t4 t5 t6 t7 lp n op PR E lu lf ld K P s u9 u10 u11 u12 u13 b0 b1 b2 b4 b5 b6 b7 d0 d1 d2 d4 d5 d6 d7 R R2) : jr Z v0 12 = some u12 := h.2.2.2.2.2.2.2.2.2.2.2.2.2.2.2.2.2.2.2.2.2.2.2.2.2.2.2.2.1
theorem OC.h13 {Z : jZ} {I0 : jI} {L0 : jL} {v0 v8 u0 u1 u2 u3 u4 u41 u5 u8 : Nat} {uL0 uC0 uL1 uC1 : Nat} {c0 c1 : List Int} {t4 t5 t6 t7 lp n : Nat} {op : Nat → Prop} {PR : Int → Int → Int → Int → Int → Int} {E : Nat → Nat → Int} {lu lf : Nat → Int} {ld K P : Int} {s u9 u10 u11 u12 u13 : Nat} {b0 b1 b2 b4 b5 b6 b7 d0 d1 d2 d4 d5 d6 d7 : Nat} {R R2 : Nat → List Int} (h : OC Z I0 L0 v0 v8 u0 u1 u2 u3 u4 u41 u5 u8 uL0 uC0 uL1 uC1 c0 c1 t4 t5 t6 t7 lp n op PR E lu lf ld K P s u9 u10 u11 u12 u13 b0 b1 b2 b4 b5 b6 b7 d0 d1 d2 d4 d5 d6 d7 R R2) : jr Z v0 13 = some u13 := h.2.2.2.2.2.2.2.2.2.2.2.2.2.2.2.2.2.2.2.2.2.2.2.2.2.2.2.2.2.1
theorem OC.op0 {Z : jZ} {I0 : jI} {L0 : jL} {v0 v8 u0 u1 u2 u3 u4 u41 u5 u8 : Nat} {uL0 uC0 uL1 uC1 : Nat} {c0 c1 : List Int} {t4 t5 t6 t7 lp n : Nat} {op : Nat → Prop} {PR : Int → Int → Int → Int → Int → Int} {E : Nat → Nat → Int} {lu lf : Nat → Int} {ld K P : Int} {s u9 u10 u11 u12 u13 : Nat} {b0 b1 b2 b4 b5 b6 b7 d0 d1 d2 d4 d5 d6 d7 : Nat} {R R2 : Nat → List Int} (h : OC Z I0 L0 v0 v8 u0 u1 u2 u3 u4 u41 u5 u8 uL0 uC0 uL1 uC1 c0 c1 t4 t5 t6 t7 lp n op PR E lu lf ld K P s u9 u10 u11 u12 u13 b0 b1 b2 b4 b5 b6 b7 d0 d1 d2 d4 d5 d6 d7 R R2) : op 0 := h.2.2.2.2.2.2.2.2.2.2.2.2.2.2.2.2.2.2.2.2.2.2.2.2.2.2.2.2.2.2
theorem JN_ex {R1 R2 : List Int} {lim : Int} (x1 : ∀ x, x ∈ R1 → 0 ≤ x ∧ x < 1152921504606846976) (x2 : ∀ x, x ∈ R2 → 0 ≤ x ∧ x < 1152921504606846976) : ∃ v, JNs R1 R2 lim v := by
  by_cases h : ∃ a b, a ∈ R1 ∧ b ∈ R2 ∧ eK a + eK b ≤ lim
  · have key : ∀ N : Nat, (∃ a b, a ∈ R1 ∧ b ∈ R2 ∧ eK a + eK b ≤ lim ∧ a + b ≤ (N : Int)) → ∃ a b, a ∈ R1 ∧ b ∈ R2 ∧ eK a + eK b ≤ lim ∧ ∀ a' b', a' ∈ R1 → b' ∈ R2 → eK a' + eK b' ≤ lim → a + b ≤ a' + b' := by
      intro N
      induction N with
      | zero =>
        rintro ⟨a, b, ha, hb, hl, hN⟩
        refine ⟨a, b, ha, hb, hl, fun a' b' ha' hb' _ => ?_⟩
        have := x1 a' ha'
        have := x2 b' hb'
        omega
      | succ N ih =>
        rintro ⟨a, b, ha, hb, hl, hN⟩
        by_cases g : ∃ a b, a ∈ R1 ∧ b ∈ R2 ∧ eK a + eK b ≤ lim ∧ a + b ≤ (N : Int)
        · exact ih g
        · refine ⟨a, b, ha, hb, hl, fun a' b' ha' hb' hl' => ?_⟩
          have : ¬ a' + b' ≤ (N : Int) := fun q => g ⟨a', b', ha', hb', hl', q⟩
          omega
    obtain ⟨a, b, ha, hb, hl⟩ := h
    have ra := x1 a ha
    have rb := x2 b hb
    obtain ⟨a, b, ha, hb, hl, hm⟩ := key (a + b).toNat ⟨a, b, ha, hb, hl, by omega⟩
    have ra := x1 a ha
    have rb := x2 b hb
    refine ⟨a + b - 16777215, Or.inr ⟨by unfold BIG; omega, ⟨a, b, ha, hb, hl, rfl⟩, fun a' b' ha' hb' hl' => ?_⟩⟩
    have := hm a' b' ha' hb' hl'
    omega
  · exact ⟨BIG, Or.inl ⟨rfl, fun a b ha hb hl => h ⟨a, b, ha, hb, hl⟩⟩⟩
theorem nk15 {Z : jZ} {b k : Nat} (kb : jk Z b k) (h : k ≠ 15) : ¬ jk Z b 15 := fun q => h (kb.2.symm.trans q.2)
theorem dn15_3 {Z : jZ} {I : jI} {v : Nat} (w : WD Z I) (kv : jk Z v 3) : DN3 (fun x => jk Z x 15) Z v := by
  refine ⟨kv, nk15 kv (by decide), fun j b hj e => ?_⟩
  have hc : j = 0 ∨ j = 1 ∨ j = 2 := by simpa using hj
  rcases hc with rfl | rfl | rfl
  · obtain ⟨b', e', k', -⟩ := sh_f w.1 kv (j := 0) (k := 14) (m := 40) rfl
    cases e.symm.trans e'; exact nk15 k' (by decide)
  · obtain ⟨b', e', k', -⟩ := sh_f w.1 kv (j := 1) (k := 14) (m := 40) rfl
    cases e.symm.trans e'; exact nk15 k' (by decide)
  · obtain ⟨b', e', k', -⟩ := sh_f w.1 kv (j := 2) (k := 14) (m := 41) rfl
    cases e.symm.trans e'; exact nk15 k' (by decide)
theorem dn15_4 {Z : jZ} {I : jI} {v : Nat} (w : WD Z I) (kv : jk Z v 4) : DN4 (fun x => jk Z x 15) Z v := by
  refine ⟨kv, nk15 kv (by decide), fun j b hj e => ?_⟩
  have hc : j = 0 ∨ j = 1 ∨ j = 2 := by simpa using hj
  rcases hc with rfl | rfl | rfl
  · obtain ⟨b', e', k', -⟩ := sh_f w.1 kv (j := 0) (k := 14) (m := 192) rfl
    cases e.symm.trans e'; exact nk15 k' (by decide)
  · obtain ⟨b', e', k', -⟩ := sh_f w.1 kv (j := 1) (k := 14) (m := 24) rfl
    cases e.symm.trans e'; exact nk15 k' (by decide)
  · obtain ⟨b', e', k', -⟩ := sh_f w.1 kv (j := 2) (k := 14) (m := 1536) rfl
    cases e.symm.trans e'; exact nk15 k' (by decide)
theorem dn15_8 {Z : jZ} {I : jI} {v : Nat} (w : WD Z I) (kv : jk Z v 8) : DN8 (fun x => jk Z x 15) Z v := by
  refine ⟨kv, nk15 kv (by decide), fun j b hj e => ?_, fun b e => ?_, fun j b hj e => ?_⟩
  · have hc : j = 0 ∨ j = 1 ∨ j = 2 ∨ j = 3 ∨ j = 5 ∨ j = 8 := by simpa using hj
    have g : ∀ k o, jsh 8 j = some (k, o) → k ≠ 15 → ¬ jk Z b 15 := fun k o hs hk => by
      obtain ⟨b', e', k', -⟩ := w.1.1 v 8 kv j k o hs
      cases e.symm.trans e'
      exact nk15 k' hk
    rcases hc with rfl | rfl | rfl | rfl | rfl | rfl
    · exact g 14 (some 24) rfl (by decide)
    · exact g 14 (some 24) rfl (by decide)
    · exact g 14 (some 24) rfl (by decide)
    · exact g 14 (some 24) rfl (by decide)
    · exact g 14 (some 8) rfl (by decide)
    · exact g 14 (some 7) rfl (by decide)
  · obtain ⟨b', e', k'⟩ := sh_o w.1 kv (j := 4) (k := 4) rfl
    cases e.symm.trans e'
    exact dn15_4 w k'
  · have hc : j = 6 ∨ j = 7 := by simpa using hj
    rcases hc with rfl | rfl
    · obtain ⟨b', e', k'⟩ := sh_o w.1 kv (j := 6) (k := 3) rfl
      cases e.symm.trans e'
      exact dn15_3 w k'
    · obtain ⟨b', e', k'⟩ := sh_o w.1 kv (j := 7) (k := 3) rfl
      cases e.symm.trans e'
      exact dn15_3 w k'
set_option maxHeartbeats 4000000 in
theorem of_L150 {Z : jZ} {I : jI} {L : jL} (w : WD Z I) (v0 u11 u12 u13 : Nat) (kv : jk Z v0 6) (h11 : jr Z v0 11 = some u11) (h12 : jr Z v0 12 = some u12) (h13 : jr Z v0 13 = some u13) (v10 : Int64) (base : Int) (e10 : v10.toInt = base) (bb : -4611686018427387904 ≤ base ∧ base ≤ 4611686018427387904) (pv : Nat → Int) (hpv : ∀ v : Nat, v < 21 → (I u13 v).toInt = pv v ∧ 0 ≤ pv v ∧ pv v ≤ 99) (T : Nat → Int → Int → Prop) (hT : ∀ v : Nat, v < 21 → T v (if base + pv v * 2199023255552 < (L u11 v).toInt then base + pv v * 2199023255552 else (L u11 v).toInt) (if base + pv v * 2199023255552 < (L u11 v).toInt then pv v else (I u12 v).toInt)) {Q : jI → jL → Prop}
    (hQ : ∀ (I' : jI) (L' : jL), WD Z I' → FR [(6, 12)] Z I Z I' → (∀ x, x ≠ u11 → L' x = L x) → (∀ v : Nat, v < 21 → T v (L' u11 v).toInt (I' u12 v).toInt) → Q I' L') :
    ∀ (k v : Nat) (v12 : Int32) (I1 : jI) (L1 : jL), 22 ≤ k + v → v ≤ 21 → v12.toInt = (v : Int) → WD Z I1 → FR [(6, 12)] Z I Z I1 → (∀ x, x ≠ u11 → L1 x = L x) → (∀ x : Nat, x < v → T x (L1 u11 x).toInt (I1 u12 x).toInt) → (∀ x : Nat, v ≤ x → L1 u11 x = L u11 x ∧ I1 u12 x = I u12 x) → f_X6_offerBy_L150 Z Q k v0 v10 v12 I1 L1 := by
  have z20 : (20 : Int32).toInt = 20 := rfl
  have z1 : (1 : Int32).toInt = 1 := rfl
  obtain ⟨x, ex, k12, -⟩ := sh_f w.1 kv (j := 12) (k := 14) (m := 21) rfl
  cases h12.symm.trans ex
  obtain ⟨x, ex, k13, -⟩ := sh_f w.1 kv (j := 13) (k := 14) (m := 21) rfl
  cases h13.symm.trans ex
  have n1213 : u13 ≠ u12 := ds_ne w.2.1 kv h13 h12 rfl rfl (by decide)
  intro k
  induction k with
  | zero => intro v v12 I1 L1 hk hv; omega
  | succ k ih =>
    intro v v12 I1 L1 hk hv e12 w1 f1 oL hl hh
    have p13 : I1 u13 = I u13 := f1.2.2.2 v0 6 13 u13 kv h13 (by rw [k13.2]; rfl) rfl (by decide)
    unfold f_X6_offerBy_L150
    refine ⟨fun c => ?_, fun c => ?_⟩
    · have c := (i_lt z20 e12).mp c
      exact hQ I1 L1 w1 f1 oL (fun x hx => hl x (by omega))
    have c := (not_congr (i_lt z20 e12)).mp c
    have n12 : v12.toNatClampNeg = v := by have := i_nat e12 (by omega); omega
    have vi : vp_in v12 21 := vi_of e12 (by omega) (by omega)
    obtain ⟨ep, p0, p1⟩ := hpv v (by omega)
    obtain ⟨hL, hI⟩ := hh v (Nat.le_refl _)
    have ht := hT v (by omega)
    have nx : ∀ x : Int32, x = v12 + 1 → x.toInt = ((v + 1 : Nat) : Int) := fun x ex => by
      rw [ex]
      exact (i_add e12 z1 (by omega) (by omega)).trans (by omega)
    intro b h; cases h13.symm.trans h
    rw [n12, p13]
    refine ⟨vi, fun x5 e5 => ?_⟩
    have t5 : x5.toInt = base + pv v * 2199023255552 := by
      rw [e5]
      exact l_add e10 (k_shl41 ep p0 (by omega)) (by omega) (by omega)
    intro b h; cases h11.symm.trans h
    refine ⟨vi, fun c2 => ?_, fun c2 => ?_⟩
    · have c2 := (l_ge t5 (y := L1 u11 v) rfl).mp c2
      rw [hL] at c2
      unfold f_X6_offerBy_b209
      intro x ex
      refine ih (v + 1) x I1 L1 (by omega) (by omega) (nx x ex) w1 f1 oL (fun y hy => ?_) (fun y hy => hh y (by omega))
      by_cases cy : y = v
      · rw [if_neg (by omega), if_neg (by omega)] at ht
        rw [cy, hL, hI]
        exact ht
      · exact hl y (by omega)
    · have c2 := (not_congr (l_ge t5 (y := L1 u11 v) rfl)).mp c2
      rw [hL] at c2
      intro b h; cases h11.symm.trans h
      refine ⟨vi, fun L11 e11 => ?_⟩
      intro b h; cases h12.symm.trans h
      intro b h; cases h13.symm.trans h
      refine ⟨vi, vi, fun I16 e16 => ?_⟩
      rw [p13] at e16
      unfold f_X6_offerBy_b209
      intro x ex
      refine ih (v + 1) x I16 L11 (by omega) (by omega) (nx x ex) ?_ ?_ (fun y hy => by rw [e11, jpL_ne hy]; exact oL y hy) (fun y hy => ?_) (fun y hy => ?_)
      · rw [e16]; exact WD_putA w1 6 12 kv h12 k12 rfl rfl (by decide) trivial
      · exact f1.trans w.1 w.2.1 (by rw [e16]; exact FR_upA w1.2.1 kv h12 k12 rfl rfl List.mem_cons_self)
      · by_cases cy : y = v
        · rw [if_pos (by omega), if_pos (by omega)] at ht
          rw [cy, e11, jpL_at, e16, jpI_at, t5, ep]
          exact ht
        · rw [e11, jpL_off cy, e16, jpI_off cy]
          exact hl y (by omega)
      · rw [e11, jpL_off (by omega), e16, jpI_off (by omega)]
        exact hh y (by omega)
set_option maxHeartbeats 8000000 in
theorem r_X6_offerBy {Z : jZ} {I0 : jI} {L0 : jL} {v0 v8 u0 u1 u2 u3 u4 u41 u5 u8 : Nat} {uL0 uC0 uL1 uC1 : Nat} {c0 c1 : List Int} {t4 t5 t6 t7 lp n : Nat} {op : Nat → Prop} {PR : Int → Int → Int → Int → Int → Int} {E : Nat → Nat → Int} {lu lf : Nat → Int} {ld K P : Int} {s u9 u10 u11 u12 u13 : Nat} {b0 b1 b2 b4 b5 b6 b7 d0 d1 d2 d4 d5 d6 d7 : Nat} {R R2 : Nat → List Int} (X : OC Z I0 L0 v0 v8 u0 u1 u2 u3 u4 u41 u5 u8 uL0 uC0 uL1 uC1 c0 c1 t4 t5 t6 t7 lp n op PR E lu lf ld K P s u9 u10 u11 u12 u13 b0 b1 b2 b4 b5 b6 b7 d0 d1 d2 d4 d5 d6 d7 R R2) {I : jI} {L : jL} (w : WD Z I) (f : FR Wo Z I0 Z I) (oL : ∀ x, jk Z x 15 → x ≠ u11 → L x = L0 x) (v1 v2 v3 : Int32) (fr to : Nat) (e1 : v1.toInt = (s : Int)) (e2 : v2.toInt = (fr : Int)) (e3 : v3.toInt = (to : Int)) (a1 : fr ≤ s) (a2 : s < to) (a3 : to ≤ n) (a4 : to - fr ≤ lp) (a5 : op to) (D D' : Nat → Nat → Prop) (hD1 : ∀ a b, D a b → D' a b) (hD2 : ∀ a b, D' a b → D a b ∨ (a = fr ∧ b = to)) (hD3 : D' fr to) (hO : ∀ v : Nat, v < 21 → OFs lp n op (CCp (PRV c0 c1 (I0 u2) (I0 u0) (I0 u1) (I0 u3) (xLc (I0 u41) (I0 u5)) s v) ld) E K s R R2 D (L u11 v).toInt (I u12 v).toInt (prS (PRV c0 c1 (I0 u2) (I0 u0) (I0 u1) (I0 u3) (xLc (I0 u41) (I0 u5)) s v) ld s)) {Q : jI → jL → Prop} (hQ : ∀ (I' : jI) (L' : jL), WD Z I' → FR Wo Z I0 Z I' → (∀ x, jk Z x 15 → x ≠ u11 → L' x = L0 x) → (∀ v : Nat, v < 21 → OFs lp n op (CCp (PRV c0 c1 (I0 u2) (I0 u0) (I0 u1) (I0 u3) (xLc (I0 u41) (I0 u5)) s v) ld) E K s R R2 D' (L' u11 v).toInt (I' u12 v).toInt (prS (PRV c0 c1 (I0 u2) (I0 u0) (I0 u1) (I0 u3) (xLc (I0 u41) (I0 u5)) s v) ld s)) → Q I' L') : f_X6_offerBy v0 v1 v2 v3 Z I L Q := by
  have z1 : (1 : Int32).toInt = 1 := rfl
  have z3 : (3 : Int32).toInt = 3 := rfl
  have w0 := X.w0
  have kv := X.kv
  have n24 := X.n24
  have lp3 := X.lp3
  have hK := X.hK
  have k8 := X.S.1
  have hs := X.hs
  have hMI := MVs_g w0 kv f (by decide) (by decide) (by decide) (by decide) (by decide) (by decide) X.hM
  obtain ⟨⟨g4, g5, g6, g7⟩, m3, m15, mo, mm, mu⟩ := MVs_g w0 kv f (by decide) (by decide) (by decide) (by decide) (by decide) (by decide) X.hM
  obtain ⟨x, ex, ku9⟩ := sh_o w0.1 kv (j := 9) (k := 7) rfl
  cases X.h9.symm.trans ex
  obtain ⟨x, ex, ku10⟩ := sh_o w0.1 kv (j := 10) (k := 7) rfl
  cases X.h10.symm.trans ex
  obtain ⟨x, ex, k11, -⟩ := sh_f w0.1 kv (j := 11) (k := 15) (m := 21) rfl
  cases X.h11.symm.trans ex
  obtain ⟨x, ex, k12, -⟩ := sh_f w0.1 kv (j := 12) (k := 14) (m := 21) rfl
  cases X.h12.symm.trans ex
  obtain ⟨x, ex, k13, -⟩ := sh_f w0.1 kv (j := 13) (k := 14) (m := 21) rfl
  cases X.h13.symm.trans ex
  obtain ⟨x, ex, kb0⟩ := sh_o w0.1 ku9 (j := 0) (k := 15) rfl
  cases X.r9.1.symm.trans ex
  obtain ⟨x, ex, kd0⟩ := sh_o w0.1 ku10 (j := 0) (k := 15) rfl
  cases X.r10.1.symm.trans ex
  have nb0 : b0 ≠ u11 := fun q => ks_ne ku9 kv (by decide) (w0.2.1.2.2 u9 7 0 v0 6 11 b0 ku9 kv X.r9.1 (by rw [q]; exact X.h11) rfl rfl).1
  have nd0 : d0 ≠ u11 := fun q => ks_ne ku10 kv (by decide) (w0.2.1.2.2 u10 7 0 v0 6 11 d0 ku10 kv X.r10.1 (by rw [q]; exact X.h11) rfl rfl).1
  have hRI := RR_fr w0 ku9 X.r9 f (by decide) (by decide) (oL b0 kb0 nb0) X.hR
  have hRI2 := RR_fr w0 ku10 X.r10 f (by decide) (by decide) (oL d0 kd0 nd0) X.hR2
  obtain ⟨q0, q1, q2, q3, q4, q41, q5, q8, -⟩ := STc_k w0 X.S
  obtain ⟨-, s0, s1, s2, s3, s4, s41, s5, s8⟩ := X.S
  have bA : ∀ k, 0 ≤ (I0 u2 k).toInt ∧ (I0 u2 k).toInt ≤ 20 := fun k => w0.arr 8 2 k8 s2 q2 rfl rfl k
  have bP : ∀ a b c d e, 0 ≤ PR a b c d e ∧ PR a b c d e ≤ 99 := by
    rw [X.ePR]
    exact PRf_rng bA
  have bV : ∀ v : Nat, v < 21 → ∀ a b c d e, 0 ≤ (PRV c0 c1 (I0 u2) (I0 u0) (I0 u1) (I0 u3) (xLc (I0 u41) (I0 u5)) s v) a b c d e ∧ (PRV c0 c1 (I0 u2) (I0 u0) (I0 u1) (I0 u3) (xLc (I0 u41) (I0 u5)) s v) a b c d e ≤ 99 := fun v hv => PRf_rng (upd_rng hv bA)
  have hC := CCp_rng bP (ld := ld)
  have ar : ∀ (a c j b : Nat), jk Z a c → jr Z a j = some b → jk Z b 14 → jsr c j = false → (c, j) ∉ Wo → I b = I0 b := fun a c j b ka e kb hs hw => f.2.2.2 a c j b ka e (by rw [kb.2]; rfl) hs hw
  have i0 := ar v8 8 0 u0 k8 s0 q0 rfl (by decide)
  have i1 := ar v8 8 1 u1 k8 s1 q1 rfl (by decide)
  have i2 := ar v8 8 2 u2 k8 s2 q2 rfl (by decide)
  have i3 := ar v8 8 3 u3 k8 s3 q3 rfl (by decide)
  have i41 := ar u4 4 1 u41 q4 s41 q41 rfl (by decide)
  have i5 := ar v8 8 5 u5 k8 s5 q5 rfl (by decide)
  have hnI : (I v8 9).toInt = (n : Int) := by rw [f.2.2.1 v8 8 9 k8 (by decide) (by decide)]; exact X.hn
  have hlI : LWs Z I v8 uL0 uC0 uL1 uC1 c0 c1 := by
    obtain ⟨hL0, hC0, hL1, hC1, g0, g1, ok0, ok1⟩ := X.hl
    obtain ⟨x, ex, kL0⟩ := sh_o w0.1 k8 (j := 6) (k := 3) rfl
    cases hL0.symm.trans ex
    obtain ⟨x, ex, kL1⟩ := sh_o w0.1 k8 (j := 7) (k := 3) rfl
    cases hL1.symm.trans ex
    obtain ⟨x, ex, kC0, -⟩ := sh_f w0.1 kL0 (j := 0) (k := 14) (m := 40) rfl
    cases hC0.symm.trans ex
    obtain ⟨x, ex, kC1, -⟩ := sh_f w0.1 kL1 (j := 0) (k := 14) (m := 40) rfl
    cases hC1.symm.trans ex
    exact ⟨hL0, hC0, hL1, hC1, LWc_eq g0 (f.2.2.1 uL0 3 3 kL0 (by decide) (by decide)) (f.2.2.1 uL0 3 4 kL0 (by decide) (by decide)) (ar uL0 3 0 uC0 kL0 hC0 kC0 rfl (by decide)), LWc_eq g1 (f.2.2.1 uL1 3 3 kL1 (by decide) (by decide)) (f.2.2.1 uL1 3 4 kL1 (by decide) (by decide)) (ar uL1 3 0 uC1 kL1 hC1 kC1 rfl (by decide)), ok0, ok1⟩
  have eKI : (I v0 1).toInt = K := by rw [f.2.2.1 v0 6 1 kv (by decide) (by decide)]; exact X.eK
  have elI : (I v0 14).toInt = ld := by rw [f.2.2.1 v0 6 14 kv (by decide) (by decide)]; exact X.el
  have eE9 := X.hE to (to - fr)
  have far1 : 1 ≤ to - fr := by omega
  unfold f_X6_offerBy
  intro x48 e48
  have t48 : x48.toInt = ((to - fr : Nat) : Int) := by rw [e48]; exact (i_sub e3 e2 (by omega) (by omega)).trans (by omega)
  intro b h; cases X.h9.symm.trans h
  intro b h; cases X.h10.symm.trans h
  intro b h; cases g5.symm.trans h
  unfold f_X6_moveTo
  have t58 : (((v3 * (3 : Int32)) + x48) - (1 : Int32)).toInt = 3 * (to : Int) + ((to - fr : Nat) : Int) - 1 := (i_sub (i_add (i_mul e3 z3 (by omega) (by omega)) t48 (by omega) (by omega)) z1 (by omega) (by omega)).trans (by omega)
  have n58 : (((v3 * (3 : Int32)) + x48) - (1 : Int32)).toNatClampNeg = 3 * to + (to - fr) - 1 := by have := i_nat t58 (by omega); omega
  refine ⟨vi_of t58 (by omega) (by omega), ?_⟩
  rw [n58]
  have ha : alw lp op to (to - fr) := ⟨far1, a4, by omega, a5⟩
  have eE := (mm to (to - fr) ha a3).2
  refine r_X7_leastJoined w u9 u10 v2 v3 _ ku9 ku10 b0 b1 b2 b4 b5 b6 b7 X.r9 d0 d1 d2 d4 d5 d6 d7 X.r10 fr to (by omega) (by omega) e2 e3 R R2 hRI hRI2 (K - E to (to - fr)) (i_sub eKI eE (by omega) (by omega)) (by omega) (X.hW fr a1).2 (X.hW2 to a2 a3).2 (ROW_key (by omega) hC X.hE hK.2 X.hu.2.2 (X.hW fr a1)) (EROW_key n24 hC X.hE hK.2 X.hf.2.2 (X.hW2 to a2 a3)) (RR_len w ku9 X.r9 hRI (by omega)) (RR_len w ku10 X.r10 hRI2 (by omega)) (fun r66 hJ => ?_)
  refine ⟨fun c => ?_, fun c => ?_⟩
  · have c := (l_eqz (x := r66) (y := 9223372036854775807) rfl (show (9223372036854775807 : Int64).toInt = BIG from rfl)).mp c
    refine hQ I L w f oL (fun v hv => OFs_mono (hO v hv) hD1 (fun a b k hd hk => ?_))
    rcases hD2 a b hd with g | ⟨g1, g2⟩
    · exact g
    · rw [g1, g2] at hk
      obtain ⟨-, -, -, -, -, vv, hv', hB, -⟩ := hk
      have := JN_fun hJ hv'
      omega
  have c := (not_congr (l_eqz (x := r66) (y := 9223372036854775807) rfl (show (9223372036854775807 : Int64).toInt = BIG from rfl))).mp c
  obtain ⟨hB, rV⟩ : r66.toInt < BIG ∧ -16777215 ≤ r66.toInt ∧ r66.toInt ≤ 2305843009213693952 := by
    rcases hJ with ⟨e, -⟩ | ⟨hB, ⟨xa, xb, ha', hb', -, e⟩, -⟩
    · exact absurd e c
    · have ra := ROW_key (by omega) hC X.hE hK.2 X.hu.2.2 (X.hW fr a1) xa ha'
      have rb := EROW_key n24 hC X.hE hK.2 X.hf.2.2 (X.hW2 to a2 a3) xb hb'
      omega
  have rest : ∀ lwv : Int32, lwv.toInt = (if to = s + 1 then 0 else 1) → f_X6_offerBy_b69 Z Q v0 v1 v2 v3 x48 r66 lwv I L := by
    intro lwv elw
    have hlw : lwv.toInt = 0 ∨ lwv.toInt = 1 := by
      rw [elw]
      by_cases c9 : to = s + 1
      · exact Or.inl (if_pos c9)
      · exact Or.inr (if_neg c9)
    have tt2 : (v2 - (1 : Int32)).toInt = (fr : Int) - 1 := i_sub e2 z1 (by omega) (by omega)
    have tt4 : (x48 - (1 : Int32)).toInt = (to : Int) - (fr : Int) - 1 := (i_sub t48 z1 (by omega) (by omega)).trans (by omega)
    have nv1 : v1.toInt.toNat = s := by omega
    unfold f_X6_offerBy_b69
    intro b h; cases X.h8.symm.trans h
    intro b h; cases X.h13.symm.trans h
    refine loc_X8_pricesInto (P := fun x => jk Z x 15) (dn15_8 w k8) (nk15 k13 (by decide)) (KP.rf (fun x h => h.1)) (r_X8_pricesInto w v8 u0 u1 u2 u3 u4 u41 u5 u8 X.S v0 u13 kv X.h13 uL0 uC0 uL1 uC1 c0 c1 hlI lwv v1 (v2 - (1 : Int32)) (x48 - (1 : Int32)) (I v0 14) hlw (n : Int) hnI (by omega) (by omega) (by omega) (Q := fun I' _ => WD Z I' ∧ FR [(3, 2), (6, 13), (8, 8)] Z I Z I' ∧ ∀ v : Nat, v < 21 → (I' u13 v).toInt = PRf c0 c1 (updA (I u2) v1.toInt.toNat (Int32.ofNat v)) (I u0) (I u1) (I u3) (xLc (I u41) (I u5)) lwv.toInt v1.toInt (v2 - (1 : Int32)).toInt (x48 - (1 : Int32)).toInt (I v0 14).toInt) (fun I' L' w' f' h' _ => ⟨w', f', h'⟩)) (fun I30 L31 kp hq => ?_)
    obtain ⟨w30, f30, hp30⟩ := hq
    have hp : ∀ v : Nat, v < 21 → (I30 u13 v).toInt = prS (PRV c0 c1 (I0 u2) (I0 u0) (I0 u1) (I0 u3) (xLc (I0 u41) (I0 u5)) s v) ld s fr to := fun v hv => by
      rw [hp30 v hv, nv1, i0, i1, i2, i3, i41, i5, elw, e1, tt2, tt4, elI]
      rfl
    have f0 : FR Wo Z I0 Z I30 := f.trans w0.1 w0.2.1 (f30.mono (by decide))
    have o31 : ∀ x, jk Z x 15 → L31 x = L x := fun x hx => (kp.2.2.1 x hx).2.1
    intro b h; cases X.h8.symm.trans h
    intro b h; cases s2.symm.trans h
    have n1 : v1.toNatClampNeg = s := by have := i_nat e1 (by omega); omega
    rw [n1]
    refine ⟨vi_of e1 (by omega) (by omega), fun x37 e37 => ?_⟩
    have a30 : I30 u2 = I0 u2 := f0.2.2.2 v8 8 2 u2 k8 s2 (by rw [q2.2]; rfl) rfl (by decide)
    rw [a30] at e37
    have rA := bA s
    rw [← e37] at rA
    unfold f_X11_isAsked
    refine ⟨fun q => ?_, fun _ => ⟨fun q => ?_, fun _ => ⟨fun q => absurd q (by decide), fun _ => ?_⟩⟩⟩
    · have q := (i_lt (x := x37) rfl (show (0 : Int32).toInt = 0 from rfl)).mp q
      omega
    · have q := (i_lt (y := x37) (show (20 : Int32).toInt = 20 from rfl) rfl).mp q
      omega
    intro b h; cases X.h13.symm.trans h
    have n37 : x37.toNatClampNeg = x37.toInt.toNat := by have := i_nat (x := x37) rfl (by omega); omega
    have e37' : Int32.ofNat x37.toNatClampNeg = I0 u2 s := by
      rw [← e37]
      exact ((i_eq (x := x37) rfl (i_nI (n := x37.toNatClampNeg) (by omega))).mpr (by omega)).symm
    refine ⟨vi_of rfl (by omega) (by omega), ?_⟩
    have enow : (I30 u13 x37.toNatClampNeg).toInt = prS PR ld s fr to := by
      rw [hp x37.toNatClampNeg (by omega), X.ePR]
      unfold PRV
      rw [e37', updA_self]
    have rnow : 0 ≤ prS PR ld s fr to ∧ prS PR ld s fr to ≤ 99 := bP _ _ _ _ _
    obtain ⟨⟨y4, y5, -, -⟩, -, -, -, ym, -⟩ := MVs_g w kv f30 (by decide) (by decide) (by decide) (by decide) (by decide) (by decide) hMI
    unfold f_X6_offerBy_b126
    refine c_keyOf v0 v3 x48 t4 t5 g4 g5 to (to - fr) e3 t48 ⟨by omega, by omega⟩ ⟨far1, by omega⟩ (ym to (to - fr) ha a3).1 (ym to (to - fr) ha a3).2 (hC to (to - fr)) eE9 (fun r23 e23 x24 e24 => ?_)
    have rM : -16777216 ≤ mvK (CCp PR ld) E to (to - fr) ∧ mvK (CCp PR ld) E to (to - fr) ≤ 1152921504606846976 := by
      have c9 := hC to (to - fr)
      have b9 := btP_top to
      have p9 := btP_pos to
      unfold mvK
      omega
    have t24 : x24.toInt = r66.toInt + mvK (CCp PR ld) E to (to - fr) - prS PR ld s fr to * 2199023255552 := by
      rw [e24]
      exact l_sub (l_add rfl e23 (by omega) (by omega)) (k_shl41 enow rnow.1 (by omega)) (by omega) (by omega)
    have off : ∀ v : Nat, ∀ lw st fr lp, 0 ≤ st → st ≠ (s : Int) → (PRV c0 c1 (I0 u2) (I0 u0) (I0 u1) (I0 u3) (xLc (I0 u41) (I0 u5)) s v) lw st fr lp ld = PR lw st fr lp ld := fun v lw st fr lp h0 h1 => by
      rw [X.ePR]
      exact PRV_off (ld := ld) lw st fr lp h0 h1
    refine ⟨22, of_L150 w30 v0 u11 u12 u13 kv X.h11 X.h12 X.h13 x24 _ t24 (by omega) (fun v => prS (PRV c0 c1 (I0 u2) (I0 u0) (I0 u1) (I0 u3) (xLc (I0 u41) (I0 u5)) s v) ld s fr to) (fun v hv => ⟨hp v hv, bV v hv _ _ _ _ _⟩) (fun v wv pv => OFs lp n op (CCp (PRV c0 c1 (I0 u2) (I0 u0) (I0 u1) (I0 u3) (xLc (I0 u41) (I0 u5)) s v) ld) E K s R R2 D' wv pv (prS (PRV c0 c1 (I0 u2) (I0 u0) (I0 u1) (I0 u3) (xLc (I0 u41) (I0 u5)) s v) ld s)) (fun v hv => ?_) (fun I' L' w' f' oL' hO' => hQ I' L' w' (f0.trans w0.1 w0.2.1 (f'.mono (by decide))) (fun x kx hx => ?_) hO') 22 0 0 I30 L31 (by omega) (by omega) rfl w30 FR.rf (fun _ _ => rfl) (fun x hx => absurd hx (Nat.not_lt_zero x)) (fun _ _ => ⟨rfl, rfl⟩)⟩
    · have kk : r66.toInt + mvK (CCp PR ld) E to (to - fr) - prS PR ld s fr to * 2199023255552 + prS (PRV c0 c1 (I0 u2) (I0 u0) (I0 u1) (I0 u3) (xLc (I0 u41) (I0 u5)) s v) ld s fr to * 2199023255552 = r66.toInt + mvK (CCp (PRV c0 c1 (I0 u2) (I0 u0) (I0 u1) (I0 u3) (xLc (I0 u41) (I0 u5)) s v) ld) E to (to - fr) := by
        rw [mvK_upd (CC_upd (off v) a1 a2 (by omega))]
        omega
      have rV2 := bV v hv (if to = s + 1 then 0 else 1) (s : Int) ((fr : Int) - 1) ((to : Int) - (fr : Int) - 1) ld
      have rV3 : 0 ≤ prS (PRV c0 c1 (I0 u2) (I0 u0) (I0 u1) (I0 u3) (xLc (I0 u41) (I0 u5)) s v) ld s fr to ∧ prS (PRV c0 c1 (I0 u2) (I0 u0) (I0 u1) (I0 u3) (xLc (I0 u41) (I0 u5)) s v) ld s fr to ≤ 99 := rV2
      show OFs lp n op (CCp (PRV c0 c1 (I0 u2) (I0 u0) (I0 u1) (I0 u3) (xLc (I0 u41) (I0 u5)) s v) ld) E K s R R2 D' (if r66.toInt + mvK (CCp PR ld) E to (to - fr) - prS PR ld s fr to * 2199023255552 + prS (PRV c0 c1 (I0 u2) (I0 u0) (I0 u1) (I0 u3) (xLc (I0 u41) (I0 u5)) s v) ld s fr to * 2199023255552 < (L31 u11 v).toInt then r66.toInt + mvK (CCp PR ld) E to (to - fr) - prS PR ld s fr to * 2199023255552 + prS (PRV c0 c1 (I0 u2) (I0 u0) (I0 u1) (I0 u3) (xLc (I0 u41) (I0 u5)) s v) ld s fr to * 2199023255552 else (L31 u11 v).toInt) (if r66.toInt + mvK (CCp PR ld) E to (to - fr) - prS PR ld s fr to * 2199023255552 + prS (PRV c0 c1 (I0 u2) (I0 u0) (I0 u1) (I0 u3) (xLc (I0 u41) (I0 u5)) s v) ld s fr to * 2199023255552 < (L31 u11 v).toInt then prS (PRV c0 c1 (I0 u2) (I0 u0) (I0 u1) (I0 u3) (xLc (I0 u41) (I0 u5)) s v) ld s fr to else (I30 u12 v).toInt) (prS (PRV c0 c1 (I0 u2) (I0 u0) (I0 u1) (I0 u3) (xLc (I0 u41) (I0 u5)) s v) ld s)
      have i12 : I30 u12 = I u12 := f30.2.2.2 v0 6 12 u12 kv X.h12 (by rw [k12.2]; rfl) rfl (by decide)
      rw [o31 u11 k11, i12]
      refine OFs_put (hO v hv) hD1 hD2 hD3 ⟨a1, a2, a3, a4, a5, r66.toInt, hJ, hB, kk⟩ ?_
      unfold BIG
      omega
    · rw [oL' x hx, o31 x kx]
      exact oL x kx hx
  intro b h; cases X.h8.symm.trans h
  refine r_X8_has v8 v1 (s : Int) (n : Int) e1 hnI (by omega) (by omega) w k8 (fun r75 hr => ⟨fun _ => ⟨fun g => ?_, fun g => ?_⟩, fun q => absurd q hr⟩)
  · have g := (not_congr (i_eq e3 (i_add e1 z1 (by omega) (by omega)))).mp g
    exact rest 1 (by rw [if_neg (by omega)]; rfl)
  · have g := (i_eq e3 (i_add e1 z1 (by omega) (by omega))).mp g
    exact rest 0 (by rw [if_pos (by omega)]; rfl)
theorem r_J7_fillL {Z : jZ} {I : jI} {L : jL} (v0 : Nat) (v1 : Int64) (m : Nat) (hm : m ≤ 1000) (l : jlen Z v0 = m) {Q : jI → jL → Prop} (hQ : ∀ L' : jL, (∀ i, i < m → L' v0 i = v1) → (∀ x, x ≠ v0 → L' x = L x) → Q I L') : f_J7_fill_d0a16 v0 v1 Z I L Q := by
  have z1 : (1 : Int32).toInt = 1 := rfl
  unfold f_J7_fill_d0a16
  intro x5 e5
  have t5 : x5.toInt = (m : Int) := by rw [e5, l]; exact i_nI (n := m) (by omega)
  have key : ∀ (k i : Nat) (v3 : Int32) (L1 : jL), m + 1 ≤ k + i → i ≤ m → v3.toInt = (i : Int) → (∀ x, x < i → L1 v0 x = v1) → (∀ x, x ≠ v0 → L1 x = L x) → f_J7_fill_d0a16_L6 Z Q k v0 v1 v3 x5 I L1 := by
    intro k
    induction k with
    | zero => intro i v3 L1 hk hi; omega
    | succ k ih =>
      intro i v3 L1 hk hi e3 h1 h2
      unfold f_J7_fill_d0a16_L6
      refine ⟨fun c => ?_, fun c => ?_⟩
      · have c := (i_le t5 e3).mp c
        exact hQ L1 (fun x hx => h1 x (by omega)) h2
      · have c := (not_congr (i_le t5 e3)).mp c
        have n3 : v3.toNatClampNeg = i := by have := i_nat e3 (by omega); omega
        refine ⟨by rw [l]; exact vi_of e3 (by omega) (by omega), fun L3 e4 x4 ex4 => ?_⟩
        rw [n3] at e4
        refine ih (i + 1) x4 L3 (by omega) (by omega) (by rw [ex4]; exact (i_add e3 z1 (by omega) (by omega)).trans (by omega)) (fun x hx => ?_) (fun x hx => by rw [e4, jpL_ne hx]; exact h2 x hx)
        rw [e4]
        by_cases cx : x = i
        · rw [cx, jpL_at]
        · rw [jpL_off cx]
          exact h1 x (by omega)
  exact ⟨m + 1, key (m + 1) 0 0 L (Nat.le_refl _) (Nat.zero_le _) rfl (fun x hx => absurd hx (Nat.not_lt_zero x)) (fun _ _ => rfl)⟩
/-- what a pilgrim pays step s, and whether it climbs -/
def PYo (lp n : Nat) (op : Nat → Prop) (C' E : Nat → Nat → Int) (K P : Int) (s : Nat) (pr : Nat → Nat → Int) (pay cl : Int) : Prop := ((∀ m c e b, ¬ FEA lp n op C' E K P m c e b) ∧ pay = 0 ∧ cl = 0) ∨ (∃ m c e b fr to, LST lp n op C' E K P m c e b ∧ PAS s m 0 b fr to ∧ pay = pr fr to ∧ cl = 1)
def Waf : List (Nat × Nat) := [(3, 2), (6, 12), (6, 13), (8, 8), (11, 13), (11, 14)]
set_option maxHeartbeats 4000000 in
theorem ao_L88 {Z : jZ} {I : jI} {L : jL} (w : WD Z I) (v0 u11 u12 vm p13 p14 : Nat) (kv : jk Z v0 6) (h11 : jr Z v0 11 = some u11) (h12 : jr Z v0 12 = some u12) (km : jk Z vm 11) (hp13 : jr Z vm 13 = some p13) (hp14 : jr Z vm 14 = some p14) (P : Int) (eP : (I v0 2).toInt = P) (b13 : ∀ v : Nat, v < 21 → 0 ≤ (I p13 v).toInt ∧ (I p13 v).toInt ≤ 1000) (b14 : ∀ v : Nat, v < 21 → 0 ≤ (I p14 v).toInt ∧ (I p14 v).toInt ≤ 1000) (T : Nat → Int → Int → Prop) (hT : ∀ v : Nat, v < 21 → ((L u11 v).toInt = BIG ∧ T v 0 0) ∨ ((L u11 v).toInt < BIG ∧ 0 ≤ (L u11 v).toInt ∧ P < cK (L u11 v).toInt ∧ T v 0 0) ∨ ((L u11 v).toInt < BIG ∧ 0 ≤ (L u11 v).toInt ∧ cK (L u11 v).toInt ≤ P ∧ (0 ≤ (I u12 v).toInt ∧ (I u12 v).toInt ≤ 99) ∧ T v (I u12 v).toInt 1)) {Q : jI → jL → Prop}
    (hQ : ∀ I' : jI, WD Z I' → FR [(11, 13), (11, 14)] Z I Z I' → (∀ v : Nat, v < 21 → ∃ pay cl, T v pay cl ∧ (I' p13 v).toInt = (I p13 v).toInt + pay ∧ (I' p14 v).toInt = (I p14 v).toInt + cl) → Q I' L) :
    ∀ (k v : Nat) (v4 : Int32) (I1 : jI), 22 ≤ k + v → v ≤ 21 → v4.toInt = (v : Int) → WD Z I1 → FR [(11, 13), (11, 14)] Z I Z I1 → (∀ x : Nat, x < v → ∃ pay cl, T x pay cl ∧ (I1 p13 x).toInt = (I p13 x).toInt + pay ∧ (I1 p14 x).toInt = (I p14 x).toInt + cl) → (∀ x : Nat, v ≤ x → I1 p13 x = I p13 x ∧ I1 p14 x = I p14 x) → f_X6_addOffers_L88 Z Q k v0 p13 p14 v4 I1 L := by
  have z1 : (1 : Int32).toInt = 1 := rfl
  have z20 : (20 : Int32).toInt = 20 := rfl
  obtain ⟨x, ex, k12, -⟩ := sh_f w.1 kv (j := 12) (k := 14) (m := 21) rfl
  cases h12.symm.trans ex
  obtain ⟨x, ex, k13, l13⟩ := sh_f w.1 km (j := 13) (k := 14) (m := 21) rfl
  cases hp13.symm.trans ex
  obtain ⟨x, ex, k14, l14⟩ := sh_f w.1 km (j := 14) (k := 14) (m := 21) rfl
  cases hp14.symm.trans ex
  have n34 : p13 ≠ p14 := ds_ne w.2.1 km hp13 hp14 rfl rfl (by decide)
  intro k
  induction k with
  | zero => intro v v4 I1 hk hv; omega
  | succ k ih =>
    intro v v4 I1 hk hv e4 w1 f1 hl hh
    have i12 : I1 u12 = I u12 := f1.2.2.2 v0 6 12 u12 kv h12 (by rw [k12.2]; rfl) rfl (by decide)
    have i2 : (I1 v0 2).toInt = P := by rw [f1.2.2.1 v0 6 2 kv (by decide) (by decide)]; exact eP
    unfold f_X6_addOffers_L88
    refine ⟨fun c => ?_, fun c => ?_⟩
    · have c := (i_lt z20 e4).mp c
      exact hQ I1 w1 f1 (fun x hx => hl x (by omega))
    have c := (not_congr (i_lt z20 e4)).mp c
    have n4 : v4.toNatClampNeg = v := by have := i_nat e4 (by omega); omega
    have vi : vp_in v4 21 := vi_of e4 (by omega) (by omega)
    obtain ⟨hh1, hh2⟩ := hh v (Nat.le_refl _)
    have nx : ∀ x : Int32, x = v4 + 1 → x.toInt = ((v + 1 : Nat) : Int) := fun x ex => by
      rw [ex]
      exact (i_add e4 z1 (by omega) (by omega)).trans (by omega)
    have skip : T v 0 0 → f_X6_addOffers_b148 (f_X6_addOffers_L88 Z Q k) Z Q v0 p13 p14 v4 I1 L := fun ht => by
      unfold f_X6_addOffers_b148
      intro x ex
      refine ih (v + 1) x I1 (by omega) (by omega) (nx x ex) w1 f1 (fun y hy => ?_) (fun y hy => hh y (by omega))
      by_cases cy : y = v
      · rw [cy, hh1, hh2]
        exact ⟨0, 0, ht, by omega, by omega⟩
      · exact hl y (by omega)
    intro b h; cases h11.symm.trans h
    rw [n4]
    refine ⟨vi, fun c2 => ?_, fun c2 => ?_⟩
    · have c2 := (l_eqz (x := L u11 v) (y := 9223372036854775807) rfl (show (9223372036854775807 : Int64).toInt = BIG from rfl)).mp c2
      rcases hT v (by omega) with ⟨-, g⟩ | ⟨g1, -⟩ | ⟨g1, -⟩
      · exact skip g
      · omega
      · omega
    have c2 := (not_congr (l_eqz (x := L u11 v) (y := 9223372036854775807) rfl (show (9223372036854775807 : Int64).toInt = BIG from rfl))).mp c2
    intro b h; cases h11.symm.trans h
    refine ⟨vi, ?_⟩
    have pos : 0 ≤ (L u11 v).toInt := by
      rcases hT v (by omega) with ⟨g, -⟩ | ⟨-, g, -⟩ | ⟨-, g, -⟩
      · exact absurd g c2
      · exact g
      · exact g
    refine c_costIn rfl pos (fun r14 e14 => ⟨fun c3 => ?_, fun c3 => ?_⟩)
    · have c3 := (i_lt i2 e14).mp c3
      rcases hT v (by omega) with ⟨g, -⟩ | ⟨-, -, -, g⟩ | ⟨-, -, g, -⟩
      · exact absurd g c2
      · exact skip g
      · omega
    · have c3 := (not_congr (i_lt i2 e14)).mp c3
      rcases hT v (by omega) with ⟨g, -⟩ | ⟨-, -, g, -⟩ | ⟨-, -, -, rp, g⟩
      · exact absurd g c2
      · omega
      have r13 := b13 v (by omega)
      have r14 := b14 v (by omega)
      refine ⟨by rw [l13]; exact vi, ?_⟩
      intro b h; cases h12.symm.trans h
      refine ⟨vi, by rw [l13]; exact vi, fun I20 e20 => ?_⟩
      refine ⟨by rw [l14]; exact vi, by rw [l14]; exact vi, fun I23 e23 => ?_⟩
      rw [i12, hh1] at e20
      have g14 : I20 p14 v = I p14 v := by rw [e20, jpI_ne n34.symm]; exact hh2
      rw [g14] at e23
      have w20 : WD Z I20 := by rw [e20]; exact WD_putA w1 11 13 km hp13 k13 rfl rfl (by decide) trivial
      have f20 : FR [(11, 13), (11, 14)] Z I Z I20 := f1.trans w.1 w.2.1 (by rw [e20]; exact FR_upA w1.2.1 km hp13 k13 rfl rfl (by decide))
      unfold f_X6_addOffers_b148
      intro x ex
      refine ih (v + 1) x I23 (by omega) (by omega) (nx x ex) ?_ ?_ (fun y hy => ?_) (fun y hy => ?_)
      · rw [e23]; exact WD_putA w20 11 14 km hp14 k14 rfl rfl (by decide) trivial
      · exact f20.trans w.1 w.2.1 (by rw [e23]; exact FR_upA w20.2.1 km hp14 k14 rfl rfl (by decide))
      · by_cases cy : y = v
        · refine ⟨(I u12 v).toInt, 1, by rw [cy]; exact g, ?_, ?_⟩
          · rw [cy, e23, jpI_ne n34, e20, jpI_at]
            exact i_add rfl rfl (by omega) (by omega)
          · rw [cy, e23, jpI_at]
            exact i_add rfl z1 (by omega) (by omega)
        · rw [e23, jpI_ne n34, jpI_off cy, e20, jpI_off cy, jpI_ne n34.symm]
          exact hl y (by omega)
      · rw [e23, jpI_ne n34, jpI_off (by omega), e20, jpI_off (by omega), jpI_ne n34.symm]
        exact hh y (by omega)
/-- pairs of places looked at -/
def DDp (t f : Nat) : Nat → Nat → Prop := fun a b => b < t ∨ (b = t ∧ a < f)
set_option maxHeartbeats 8000000 in
theorem r_X6_addOffers {Z : jZ} {I0 : jI} {L0 : jL} {v0 v8 u0 u1 u2 u3 u4 u41 u5 u8 : Nat} {uL0 uC0 uL1 uC1 : Nat} {c0 c1 : List Int} {t4 t5 t6 t7 lp n : Nat} {op : Nat → Prop} {PR : Int → Int → Int → Int → Int → Int} {E : Nat → Nat → Int} {lu lf : Nat → Int} {ld K P : Int} {s u9 u10 u11 u12 u13 : Nat} {b0 b1 b2 b4 b5 b6 b7 d0 d1 d2 d4 d5 d6 d7 : Nat} {R R2 : Nat → List Int} (X : OC Z I0 L0 v0 v8 u0 u1 u2 u3 u4 u41 u5 u8 uL0 uC0 uL1 uC1 c0 c1 t4 t5 t6 t7 lp n op PR E lu lf ld K P s u9 u10 u11 u12 u13 b0 b1 b2 b4 b5 b6 b7 d0 d1 d2 d4 d5 d6 d7 R R2) (vm p13 p14 : Nat) (km : jk Z vm 11) (hp13 : jr Z vm 13 = some p13) (hp14 : jr Z vm 14 = some p14) (v1 : Int32) (e1 : v1.toInt = (s : Int)) (b13 : ∀ v : Nat, v < 21 → 0 ≤ (I0 p13 v).toInt ∧ (I0 p13 v).toInt ≤ 1000) (b14 : ∀ v : Nat, v < 21 → 0 ≤ (I0 p14 v).toInt ∧ (I0 p14 v).toInt ≤ 1000) {Q : jI → jL → Prop} (hQ : ∀ (I' : jI) (L' : jL), WD Z I' → FR Waf Z I0 Z I' → (∀ x, jk Z x 15 → x ≠ u11 → L' x = L0 x) → (∀ v : Nat, v < 21 → ∃ pay cl, PYo lp n op (CCp (PRV c0 c1 (I0 u2) (I0 u0) (I0 u1) (I0 u3) (xLc (I0 u41) (I0 u5)) s v) ld) E K P s (prS (PRV c0 c1 (I0 u2) (I0 u0) (I0 u1) (I0 u3) (xLc (I0 u41) (I0 u5)) s v) ld s) pay cl ∧ (I' p13 v).toInt = (I0 p13 v).toInt + pay ∧ (I' p14 v).toInt = (I0 p14 v).toInt + cl) → Q I' L') : f_X6_addOffers v0 v1 p13 p14 Z I0 L0 Q := by
  have z1 : (1 : Int32).toInt = 1 := rfl
  have z0 : (0 : Int32).toInt = 0 := rfl
  have w0 := X.w0
  have kv := X.kv
  have n24 := X.n24
  have lp3 := X.lp3
  have hK := X.hK
  have hs := X.hs
  have k8 := X.S.1
  obtain ⟨x, ex, k11, l11⟩ := sh_f w0.1 kv (j := 11) (k := 15) (m := 21) rfl
  cases X.h11.symm.trans ex
  obtain ⟨x, ex, k13, -⟩ := sh_f w0.1 km (j := 13) (k := 14) (m := 21) rfl
  cases hp13.symm.trans ex
  obtain ⟨x, ex, k14, -⟩ := sh_f w0.1 km (j := 14) (k := 14) (m := 21) rfl
  cases hp14.symm.trans ex
  obtain ⟨q0, q1, q2, q3, q4, q41, q5, q8, -⟩ := STc_k w0 X.S
  obtain ⟨-, s0, s1, s2, s3, s4, s41, s5, s8⟩ := X.S
  have bA : ∀ k, 0 ≤ (I0 u2 k).toInt ∧ (I0 u2 k).toInt ≤ 20 := fun k => w0.arr 8 2 k8 s2 q2 rfl rfl k
  have bP : ∀ a b c d e, 0 ≤ PR a b c d e ∧ PR a b c d e ≤ 99 := by
    rw [X.ePR]
    exact PRf_rng bA
  have bV : ∀ v : Nat, v < 21 → ∀ a b c d e, 0 ≤ (PRV c0 c1 (I0 u2) (I0 u0) (I0 u1) (I0 u3) (xLc (I0 u41) (I0 u5)) s v) a b c d e ∧ (PRV c0 c1 (I0 u2) (I0 u0) (I0 u1) (I0 u3) (xLc (I0 u41) (I0 u5)) s v) a b c d e ≤ 99 := fun v hv => PRf_rng (upd_rng hv bA)
  have hC := CCp_rng bP (ld := ld)
  have off : ∀ v : Nat, ∀ lw st fr lp, 0 ≤ st → st ≠ (s : Int) → (PRV c0 c1 (I0 u2) (I0 u0) (I0 u1) (I0 u3) (xLc (I0 u41) (I0 u5)) s v) lw st fr lp ld = PR lw st fr lp ld := fun v lw st fr lp h0 h1 => by
    rw [X.ePR]
    exact PRV_off (ld := ld) lw st fr lp h0 h1
  have m3 := X.hM.2.1
  have m15 := X.hM.2.2.1
  have mo := X.hM.2.2.2.1
  have g6 := X.hM.1.2.2.1
  obtain ⟨x, ex, k6, -⟩ := sh_f w0.1 kv (j := 6) (k := 16) (m := 25) rfl
  cases g6.symm.trans ex
  -- the rows of all pairs joined
  have hJ : ∀ fr to, ∃ v, fr ≤ s → s < to → to ≤ n → JNs (R fr) (R2 to) (K - E to (to - fr)) v := fun fr to => by
    by_cases c : fr ≤ s ∧ s < to ∧ to ≤ n
    · obtain ⟨v, hv⟩ := JN_ex (lim := K - E to (to - fr)) (ROW_key (by omega) hC X.hE hK.2 X.hu.2.2 (X.hW fr c.1)) (EROW_key n24 hC X.hE hK.2 X.hf.2.2 (X.hW2 to c.2.1 c.2.2))
      exact ⟨v, fun _ _ _ => hv⟩
    · exact ⟨0, fun h1 h2 h3 => absurd ⟨h1, h2, h3⟩ c⟩
  have fin : ∀ (t : Nat) (I : jI) (L : jL), (n < t ∨ s + lp < t) → WD Z I → FR Wo Z I0 Z I → (∀ x, jk Z x 15 → x ≠ u11 → L x = L0 x) → (∀ v : Nat, v < 21 → OFs lp n op (CCp (PRV c0 c1 (I0 u2) (I0 u0) (I0 u1) (I0 u3) (xLc (I0 u41) (I0 u5)) s v) ld) E K s R R2 (DDp t 0) (L u11 v).toInt (I u12 v).toInt (prS (PRV c0 c1 (I0 u2) (I0 u0) (I0 u1) (I0 u3) (xLc (I0 u41) (I0 u5)) s v) ld s)) → f_X6_addOffers_b85 Z Q v0 p13 p14 I L := by
    intro t I L ht w f oL hO
    have a13 : I p13 = I0 p13 := f.2.2.2 vm 11 13 p13 km hp13 (by rw [k13.2]; rfl) rfl (by decide)
    have a14 : I p14 = I0 p14 := f.2.2.2 vm 11 14 p14 km hp14 (by rw [k14.2]; rfl) rfl (by decide)
    unfold f_X6_addOffers_b85
    refine ⟨22, ao_L88 w v0 u11 u12 vm p13 p14 kv X.h11 X.h12 km hp13 hp14 P (by rw [f.2.2.1 v0 6 2 kv (by decide) (by decide)]; exact X.eP) (by rw [a13]; exact b13) (by rw [a14]; exact b14) (fun v pay cl => PYo lp n op (CCp (PRV c0 c1 (I0 u2) (I0 u0) (I0 u1) (I0 u3) (xLc (I0 u41) (I0 u5)) s v) ld) E K P s (prS (PRV c0 c1 (I0 u2) (I0 u0) (I0 u1) (I0 u3) (xLc (I0 u41) (I0 u5)) s v) ld s) pay cl) (fun v hv => ?_) (fun I' w' f' h' => hQ I' L w' ((f.mono (by decide)).trans w0.1 w0.2.1 (f'.mono (by decide))) oL (by rw [a13, a14] at h'; exact h')) 22 0 0 I (by omega) (by omega) rfl w FR.rf (fun x hx => absurd hx (Nat.not_lt_zero x)) (fun _ _ => ⟨rfl, rfl⟩)⟩
    have ob := OFs_end (hO v hv) (fun fr to k hk => by
      obtain ⟨h1, h2, h3, h4, -⟩ := hk
      exact Or.inl (by omega))
    have hC' := CCp_rng (bV v hv) (ld := ld)
    rcases OFb_lst n24 hs X.op0 hC hC' X.hE hK.2 (fun x far h1 h2 h3 => CC_same (off v) x far h1 h2 h3) X.hu X.hf (fun q hq => (X.hW q hq).1) (fun q h1 h2 => (X.hW2 q h1 h2).1) (fun fr to => Classical.choose (hJ fr to)) (fun fr to h1 h2 h3 _ _ => Classical.choose_spec (hJ fr to) h1 h2 h3) ob with ⟨h1, h2⟩ | ⟨h1, h0, h2, h3⟩ | ⟨h1, h0, h2, m, c, e, b, fr, to, h3, h4, h5, h6⟩
    · exact Or.inl ⟨h1, Or.inl ⟨h2, rfl, rfl⟩⟩
    · exact Or.inr (Or.inl ⟨h1, h0, h2, Or.inl ⟨h3, rfl, rfl⟩⟩)
    · exact Or.inr (Or.inr ⟨h1, h0, h2, by rw [h6]; exact bV v hv _ _ _ _ _, Or.inr ⟨m, c, e, b, fr, to, h3, h5, h6, rfl⟩⟩)
  have L48 : ∀ (kk t : Nat) (v4 : Int32), s < t → t ≤ n → v4.toInt = (t : Int) → (∀ (x : Int32) (I : jI) (L : jL), x.toInt = ((t + 1 : Nat) : Int) → WD Z I → FR Wo Z I0 Z I → (∀ x, jk Z x 15 → x ≠ u11 → L x = L0 x) → (∀ v : Nat, v < 21 → OFs lp n op (CCp (PRV c0 c1 (I0 u2) (I0 u0) (I0 u1) (I0 u3) (xLc (I0 u41) (I0 u5)) s v) ld) E K s R R2 (DDp (t + 1) 0) (L u11 v).toInt (I u12 v).toInt (prS (PRV c0 c1 (I0 u2) (I0 u0) (I0 u1) (I0 u3) (xLc (I0 u41) (I0 u5)) s v) ld s)) → f_X6_addOffers_L15 Z Q kk v0 v1 p13 p14 x I L) → ∀ (k f : Nat) (v5 : Int32) (I : jI) (L : jL), s + 2 ≤ k + f → f ≤ s + 1 → t ≤ f + lp → v5.toInt = (f : Int) → WD Z I → FR Wo Z I0 Z I → (∀ x, jk Z x 15 → x ≠ u11 → L x = L0 x) → (∀ v : Nat, v < 21 → OFs lp n op (CCp (PRV c0 c1 (I0 u2) (I0 u0) (I0 u1) (I0 u3) (xLc (I0 u41) (I0 u5)) s v) ld) E K s R R2 (DDp t f) (L u11 v).toInt (I u12 v).toInt (prS (PRV c0 c1 (I0 u2) (I0 u0) (I0 u1) (I0 u3) (xLc (I0 u41) (I0 u5)) s v) ld s)) → f_X6_addOffers_L48 (f_X6_addOffers_L15 Z Q kk) Z Q k v0 v1 p13 p14 v4 v5 I L := by
    intro kk t v4 hst htn e4 hk k
    induction k with
    | zero => intro f v5 I L h1 h2; omega
    | succ k ih =>
      intro f v5 I L h1 h2 hfl e5 w fr oL hO
      have nx : ∀ x : Int32, x = v4 + 1 → x.toInt = ((t + 1 : Nat) : Int) := fun x ex => by
        rw [ex]
        exact (i_add e4 z1 (by omega) (by omega)).trans (by omega)
      unfold f_X6_addOffers_L48
      refine ⟨fun c => ?_, fun c => ?_⟩
      · have c := (i_lt e1 e5).mp c
        unfold f_X6_addOffers_b79
        intro x ex
        refine hk x I L (nx x ex) w fr oL (fun v hv => OFs_mono (hO v hv) (fun a b hd => ?_) (fun a b kx hd hkx => ?_))
        · rcases hd with g | ⟨g1, g2⟩
          · exact Or.inl (by omega)
          · exact Or.inl (by omega)
        · have q := hkx.1
          rcases hd with g | ⟨g1, g2⟩
          · by_cases cb : b = t
            · exact Or.inr ⟨cb, by omega⟩
            · exact Or.inl (by omega)
          · omega
      have c := (not_congr (i_lt e1 e5)).mp c
      have n4 : v4.toNatClampNeg = t := by have := i_nat e4 (by omega); omega
      intro b h; cases g6.symm.trans h
      have i6 : I t6 = I0 t6 := fr.2.2.2 v0 6 6 t6 kv g6 (by rw [k6.2]; rfl) rfl (by decide)
      rw [n4, i6]
      refine ⟨vi_of e4 (by omega) (by omega), fun c2 => ?_, fun c2 => ?_⟩
      · have no : ¬ op t := fun q => absurd c2 ((mo t htn).mpr q)
        unfold f_X6_addOffers_b79
        intro x ex
        refine hk x I L (nx x ex) w fr oL (fun v hv => OFs_mono (hO v hv) (fun a b hd => ?_) (fun a b kx hd hkx => ?_))
        · rcases hd with g | ⟨g1, g2⟩
          · exact Or.inl (by omega)
          · exact Or.inl (by omega)
        · have q := hkx.2.2.2.2.1
          rcases hd with g | ⟨g1, g2⟩
          · by_cases cb : b = t
            · rw [cb] at q
              exact absurd q no
            · exact Or.inl (by omega)
          · omega
      · have ho : op t := (mo t htn).mp c2
        refine r_X6_offerBy X w fr oL v1 v5 v4 f t e1 e5 e4 (by omega) hst htn (by omega) ho (DDp t f) (DDp t (f + 1)) (fun a b hd => ?_) (fun a b hd => ?_) (Or.inr ⟨rfl, Nat.lt_succ_self _⟩) hO (fun I' L' w' f' oL' hO' x36 e36 => ih (f + 1) x36 I' L' (by omega) (by omega) (by omega) (by rw [e36]; exact (i_add e5 z1 (by omega) (by omega)).trans (by omega)) w' f' oL' hO')
        · rcases hd with g | ⟨g1, g2⟩
          · exact Or.inl g
          · exact Or.inr ⟨g1, by omega⟩
        · rcases hd with g | ⟨g1, g2⟩
          · exact Or.inl (Or.inl g)
          · by_cases ca : a = f
            · exact Or.inr ⟨ca, g1⟩
            · exact Or.inl (Or.inr ⟨g1, by omega⟩)
  have L15 : ∀ (kk t : Nat) (v4 : Int32) (I : jI) (L : jL), n + 2 ≤ kk + t → s < t → t ≤ n + 1 → v4.toInt = (t : Int) → WD Z I → FR Wo Z I0 Z I → (∀ x, jk Z x 15 → x ≠ u11 → L x = L0 x) → (∀ v : Nat, v < 21 → OFs lp n op (CCp (PRV c0 c1 (I0 u2) (I0 u0) (I0 u1) (I0 u3) (xLc (I0 u41) (I0 u5)) s v) ld) E K s R R2 (DDp t 0) (L u11 v).toInt (I u12 v).toInt (prS (PRV c0 c1 (I0 u2) (I0 u0) (I0 u1) (I0 u3) (xLc (I0 u41) (I0 u5)) s v) ld s)) → f_X6_addOffers_L15 Z Q kk v0 v1 p13 p14 v4 I L := by
    intro kk
    induction kk with
    | zero => intro t v4 I L h1 h2 h3; omega
    | succ kk ih =>
      intro t v4 I L h1 h2 h3 e4 w f oL hO
      have i15 : (I v0 15).toInt = (n : Int) := by rw [f.2.2.1 v0 6 15 kv (by decide) (by decide)]; exact m15
      have i3 : (I v0 3).toInt = (lp : Int) := by rw [f.2.2.1 v0 6 3 kv (by decide) (by decide)]; exact m3
      have t13 := i_add e1 i3 (by omega) (by omega)
      unfold f_X6_addOffers_L15
      refine ⟨fun c => ?_, fun c => ⟨fun c2 => ?_, fun c2 => ?_⟩⟩
      · have c := (i_lt i15 e4).mp c
        exact fin t I L (Or.inl (by omega)) w f oL hO
      · have c2 := (i_lt t13 e4).mp c2
        exact fin t I L (Or.inr (by omega)) w f oL hO
      have c := (not_congr (i_lt i15 e4)).mp c
      have c2 := (not_congr (i_lt t13 e4)).mp c2
      intro x39 e39
      have ts := i_sub e4 i3 (by omega) (by omega)
      have t39 : x39.toInt = ((t - lp : Nat) : Int) := by
        rw [e39]
        by_cases cz : (0 : Int32) < (v4 - (I v0 3))
        · rw [if_pos cz]
          have cz := (i_lt z0 ts).mp cz
          omega
        · rw [if_neg cz]
          have cz := (not_congr (i_lt z0 ts)).mp cz
          omega
      refine ⟨s + 2, L48 kk t v4 h2 (by omega) e4 (fun x I' L' ex w' f' oL' hO' => ih (t + 1) x I' L' (by omega) (by omega) (by omega) ex w' f' oL' hO') (s + 2) (t - lp) x39 I L (by omega) (by omega) (by omega) t39 w f oL (fun v hv => OFs_mono (hO v hv) (fun a b hd => ?_) (fun a b kx hd hkx => ?_))⟩
      · rcases hd with g | ⟨g1, g2⟩
        · exact Or.inl g
        · omega
      · have q := hkx.2.2.2.1
        rcases hd with g | ⟨g1, g2⟩
        · exact Or.inl g
        · omega
  unfold f_X6_addOffers
  intro b h; cases X.h11.symm.trans h
  refine r_J7_fillL u11 9223372036854775807 21 (by omega) l11 (fun L' hB oB x48 e48 => ?_)
  refine ⟨n + 2, L15 (n + 2) (s + 1) x48 I0 L' (by omega) (by omega) (by omega) (by rw [e48]; exact (i_add e1 z1 (by omega) (by omega)).trans (by omega)) w0 FR.rf (fun x _ hx => oB x hx) (fun v hv => Or.inl ⟨?_, fun fr to k hd hk => ?_⟩)⟩
  · rw [hB v hv]
    rfl
  · have q1 := hk.2.1
    rcases hd with g | ⟨g1, g2⟩
    · omega
    · omega
end
