section
/-! ===== the reference: best rows by effort, the climb told ===== -/
def W40 : List (Nat × Nat) := [(12, 40)]
/-- the moves as the reference lays them -/
def MVm (Z : jZ) (I : jI) (a t37 t38 lp n : Nat) (op : Nat → Prop) (C E : Nat → Nat → Int) : Prop := (jr Z a 37 = some t37 ∧ jr Z a 38 = some t38) ∧ (I a 0).toInt = (n : Int) ∧ ∀ q far, q ≤ n → 1 ≤ far → far ≤ 3 → (alu lp n op q far → (I t37 (3 * q + far - 1)).toInt = C (q + far) far ∧ (I t38 (3 * q + far - 1)).toInt = E (q + far) far) ∧ (¬ alu lp n op q far → (I t37 (3 * q + far - 1)).toInt = 1000000000)
/-- the rows of the places above q, and of q below an effort -/
def BTs (I : jI) (t40 lp n : Nat) (op : Nat → Prop) (C E : Nat → Nat → Int) (KM q e : Nat) : Prop := ∀ q' e' : Nat, q' ≤ n → e' ≤ KM → (q < q' ∨ (q' = q ∧ e' < e)) → BSs lp n op C E q' (e' : Int) (I t40 (1000 * q' + e')).toInt
theorem BS_rng {lp n : Nat} {op : Nat → Prop} {C E : Nat → Nat → Int} (hn : n ≤ 24) (hC : ∀ p f, 0 ≤ C p f ∧ C p f ≤ 297) (hE : ∀ p f, 0 ≤ E p f ∧ E p f ≤ 600) {q : Nat} {e v : Int} (h : BSs lp n op C E q e v) : v = 1000000000 ∨ (0 ≤ v ∧ v ≤ 712824) := by
  rcases h with ⟨h, -⟩ | ⟨-, ⟨m, c, b, hx, ev⟩, -⟩
  · exact Or.inl h
  · have r := PX_up_rng hn hC hE hx
    right
    omega
theorem MVm_no {Z : jZ} {I : jI} {a t37 t38 lp n : Nat} {op : Nat → Prop} {C E : Nat → Nat → Int} (hC : ∀ p f, 0 ≤ C p f ∧ C p f ≤ 297) (h : MVm Z I a t37 t38 lp n op C E) {q far : Nat} (hq : q ≤ n) (h1 : 1 ≤ far) (h3 : far ≤ 3) : ((I t37 (3 * q + far - 1)).toInt = 1000000000 → ¬ alu lp n op q far) ∧ (¬ (I t37 (3 * q + far - 1)).toInt = 1000000000 → alu lp n op q far ∧ (I t37 (3 * q + far - 1)).toInt = C (q + far) far ∧ (I t38 (3 * q + far - 1)).toInt = E (q + far) far) := by
  obtain ⟨g1, g2⟩ := h.2.2 q far hq h1 h3
  refine ⟨fun e ha => ?_, fun e => ?_⟩
  · have := (g1 ha).1
    have := hC (q + far) far
    omega
  · have ha : alu lp n op q far := Classical.byContradiction (fun q => e (g2 q))
    exact ⟨ha, g1 ha⟩
set_option maxHeartbeats 4000000 in
theorem fbe_L45 {Z : jZ} {I : jI} {L : jL} (v0 t37 t38 t40 lp n : Nat) (op : Nat → Prop) (C E : Nat → Nat → Int) (hM : MVm Z I v0 t37 t38 lp n op C E) (h40 : jr Z v0 40 = some t40) (hlp : lp ≤ 3) (hn : n ≤ 24) (hC : ∀ p f, 0 ≤ C p f ∧ C p f ≤ 297) (hE : ∀ p f, 0 ≤ E p f ∧ E p f ≤ 600) (q e KM : Nat) (hq : q ≤ n) (he : e ≤ KM) (hKM : KM ≤ 999) (v1 v2 v3 : Int32) (e2v : v2.toInt = (q : Int) - 1) (e3v : v3.toInt = (e : Int)) (hT : BTs I t40 lp n op C E KM q e) {K7 : Nat → Int32 → Int32 → jI → jL → Prop} {K14 : Nat → Int32 → Int32 → Int32 → jI → jL → Prop} {Q : jI → jL → Prop}
    (hk : ∀ (w : Int32) (x6 : Int32), BSs lp n op C E q (e : Int) w.toInt → x6.toInt = ((e + 1 : Nat) : Int) → K14 v0 v1 v2 x6 (jpI I t40 (1000 * q + e) w) L) :
    ∀ (k far : Nat) (v4 v5 : Int32), 1 ≤ far → far ≤ 4 → 5 ≤ k + far → v5.toInt = (far : Int) → (q < n → BSw lp n op C E q (e : Int) far v4.toInt) → (q = n → v4.toInt = if (e : Int) = 0 then 0 else FARm) → f_X12_findByEffort_L45 K7 K14 Z Q k v0 v1 v2 v3 v4 v5 I L := by
  have z1 : (1 : Int32).toInt = 1 := rfl
  have z3 : (3 : Int32).toInt = 3 := rfl
  have zk : (1000 : Int32).toInt = 1000 := rfl
  have zh : (100 : Int32).toInt = 100 := rfl
  have zF : (1000000000 : Int32).toInt = 1000000000 := rfl
  have hMM := hM
  obtain ⟨⟨g37, g38⟩, hsz, -⟩ := hM
  have ta : (v2 + (1 : Int32)).toInt = (q : Int) := (i_add e2v z1 (by omega) (by omega)).trans (by omega)
  intro k
  induction k with
  | zero => intro far v4 v5 h1 h4 hk5; omega
  | succ k ih =>
    intro far v4 v5 h1 h4 hk5 e5v hw hw2
    unfold f_X12_findByEffort_L45
    refine ⟨fun c => ?_, fun c => ?_⟩
    · have c := (i_lt z3 e5v).mp c
      intro b h; cases h40.symm.trans h
      have t : (((1000 : Int32) * (v2 + (1 : Int32))) + v3).toInt = 1000 * (q : Int) + (e : Int) := i_add (i_mul zk ta (by omega) (by omega)) e3v (by omega) (by omega)
      have tn := i_nat t (by omega)
      refine ⟨vi_of t (by omega) (by omega), fun I5 e5 x6 e6 => ?_⟩
      rw [show (((1000 : Int32) * (v2 + (1 : Int32))) + v3).toNatClampNeg = 1000 * q + e by omega] at e5
      rw [e5]
      refine hk v4 x6 ?_ (by rw [e6]; exact (i_add e3v z1 (by omega) (by omega)).trans (by omega))
      by_cases hqn : q = n
      · rw [hw2 hqn, hqn]
        exact BS_top
      · have f4 : far = 4 := by omega
        have := hw (by omega)
        rw [f4] at this
        exact BS_of hn hC hE hlp (by omega) this
    · have c := (not_congr (i_lt z3 e5v)).mp c
      intro x7 e7
      have t7 : x7.toInt = 3 * (q : Int) + (far : Int) - 1 := by
        rw [e7]
        exact i_sub (i_add (i_mul z3 ta (by omega) (by omega)) e5v (by omega) (by omega)) z1 (by omega) (by omega)
      have n7 : x7.toNatClampNeg = 3 * q + far - 1 := by have := i_nat t7 (by omega); omega
      have vi7 : vp_in x7 75 := vi_of t7 (by omega) (by omega)
      have no := MVm_no hC hMM hq h1 (show far ≤ 3 by omega)
      rw [n7]
      have nx : ∀ x : Int32, x = v5 + 1 → x.toInt = ((far + 1 : Nat) : Int) := fun x ex => by
        rw [ex]
        exact (i_add e5v z1 (by omega) (by omega)).trans (by omega)
      have skip : (alu lp n op q far → ∀ m c b, ¬ PX lp op C E m (q + far) n c ((e : Int) - E (q + far) far) b) → f_X12_findByEffort_b147 K7 K14 (f_X12_findByEffort_L45 K7 K14 Z Q k) Z Q v0 v1 v2 v3 v4 v5 I L := fun hs => by
        unfold f_X12_findByEffort_b147
        intro x ex
        exact ih (far + 1) v4 x (by omega) (by omega) (by omega) (nx x ex) (fun hqn => BSw_skip (hw hqn) hs) hw2
      intro b h; cases g37.symm.trans h
      refine ⟨vi7, fun c2 => ?_, fun c2 => ?_⟩
      · have c2 := (i_eq rfl zF).mp c2
        exact skip (fun ha => absurd ha (no.1 c2))
      have c2 := (not_congr (i_eq rfl zF)).mp c2
      obtain ⟨ha, ec, ee⟩ := no.2 c2
      have c9 := hC (q + far) far
      have e9 := hE (q + far) far
      have haq := ha.2.2.1
      intro b h; cases g38.symm.trans h
      refine ⟨vi7, fun c3 => ?_, fun c3 => ?_⟩
      · have c3 := (i_le ee e3v).mp c3
        intro b h; cases h40.symm.trans h
        intro b h; cases g38.symm.trans h
        have tb : ((v2 + v5) + (1 : Int32)).toInt = (q : Int) + (far : Int) := (i_add (i_add e2v e5v (by omega) (by omega)) z1 (by omega) (by omega)).trans (by omega)
        have t8 : ((((1000 : Int32) * ((v2 + v5) + (1 : Int32))) + v3) - (I t38 (3 * q + far - 1))).toInt = 1000 * ((q : Int) + (far : Int)) + (e : Int) - E (q + far) far := i_sub (i_add (i_mul zk tb (by omega) (by omega)) e3v (by omega) (by omega)) ee (by omega) (by omega)
        have n8 := i_nat t8 (by omega)
        refine ⟨vi7, vi_of t8 (by omega) (by omega), fun x18 e18 => ?_⟩
        rw [show ((((1000 : Int32) * ((v2 + v5) + (1 : Int32))) + v3) - (I t38 (3 * q + far - 1))).toNatClampNeg = 1000 * (q + far) + (e - (E (q + far) far).toNat) by omega] at e18
        have bs := hT (q + far) (e - (E (q + far) far).toNat) haq (by omega) (Or.inl (by omega))
        rw [← e18, show ((e - (E (q + far) far).toNat : Nat) : Int) = (e : Int) - E (q + far) far by omega] at bs
        have br := BS_rng hn hC hE bs
        refine ⟨fun c4 => ?_, fun c4 => ?_⟩
        · have c4 := (i_eq rfl zF).mp c4
          refine skip (fun _ => ?_)
          rcases bs with ⟨-, g⟩ | ⟨g, -⟩
          · exact g
          · exact absurd c4 g
        have c4 := (not_congr (i_eq rfl zF)).mp c4
        intro b h; cases g37.symm.trans h
        refine ⟨vi7, fun x22 e22 => ?_⟩
        have tc : ((x18 + ((100 : Int32) * (I t37 (3 * q + far - 1)))) + (1 : Int32)).toInt = x18.toInt + 100 * C (q + far) far + 1 := i_add (i_add rfl (i_mul zh ec (by omega) (by omega)) (by omega) (by omega)) z1 (by omega) (by omega)
        have hmin : x22.toInt = min v4.toInt (x18.toInt + 100 * C (q + far) far + 1) := by
          rw [e22]
          by_cases c5 : ((x18 + ((100 : Int32) * (I t37 (3 * q + far - 1)))) + (1 : Int32)) < v4
          · rw [if_pos c5, tc]
            have c5 := (i_lt tc rfl).mp c5
            rw [Int.min_eq_right (by omega)]
          · rw [if_neg c5]
            have c5 := (not_congr (i_lt tc rfl)).mp c5
            rw [Int.min_eq_left (by omega)]
        unfold f_X12_findByEffort_b147
        intro x ex
        refine ih (far + 1) x22 x (by omega) (by omega) (by omega) (nx x ex) (fun hqn => ?_) (fun hqn => by omega)
        rw [hmin]
        exact BSw_take hn hC hE (hw hqn) ha bs c4
      · have c3 := (not_congr (i_le ee e3v)).mp c3
        refine skip (fun _ m c b hx => ?_)
        have := PX_up_rng hn hC hE hx
        omega
theorem BTs_put {I : jI} {t40 lp n : Nat} {op : Nat → Prop} {C E : Nat → Nat → Int} {KM q e : Nat} {w : Int32} (hKM : KM ≤ 999) (he : e ≤ KM) (h : BTs I t40 lp n op C E KM q e) (hw : BSs lp n op C E q (e : Int) w.toInt) : BTs (jpI I t40 (1000 * q + e) w) t40 lp n op C E KM q (e + 1) := by
  intro q' e' h1 h2 h3
  by_cases c : q' = q ∧ e' = e
  · rw [c.1, c.2, jpI_at]
    exact hw
  · rw [jpI_off (by omega)]
    exact h q' e' h1 h2 (by omega)
theorem MVm_t40 {Z : jZ} {I I' : jI} {a t37 t38 t40 lp n : Nat} {op : Nat → Prop} {C E : Nat → Nat → Int} (h : MVm Z I a t37 t38 lp n op C E) (h0 : t40 ≠ a ∧ t40 ≠ t37 ∧ t40 ≠ t38) (hI : ∀ x, x ≠ t40 → I' x = I x) : MVm Z I' a t37 t38 lp n op C E := by
  obtain ⟨g1, g2, g3⟩ := h
  refine ⟨g1, by rw [hI a h0.1.symm]; exact g2, ?_⟩
  rw [hI t37 h0.2.1.symm, hI t38 h0.2.2.symm]
  exact g3
set_option maxHeartbeats 4000000 in
theorem fbe_L14 {Z : jZ} {L : jL} (v0 t37 t38 t40 lp n : Nat) (op : Nat → Prop) (C E : Nat → Nat → Int) (h40 : jr Z v0 40 = some t40) (h0 : t40 ≠ v0 ∧ t40 ≠ t37 ∧ t40 ≠ t38) (hlp : lp ≤ 3) (hn : n ≤ 24) (hC : ∀ p f, 0 ≤ C p f ∧ C p f ≤ 297) (hE : ∀ p f, 0 ≤ E p f ∧ E p f ≤ 600) (q KM : Nat) (hq : q ≤ n) (hKM : KM ≤ 999) (v1 v2 : Int32) (e1v : v1.toInt = (KM : Int)) (e2v : v2.toInt = (q : Int) - 1) (I0 : jI) {K7 : Nat → Int32 → Int32 → jI → jL → Prop} {Q : jI → jL → Prop}
    (hk : ∀ (I : jI) (x : Int32), MVm Z I v0 t37 t38 lp n op C E → BTs I t40 lp n op C E KM q (KM + 1) → (∀ x, x ≠ t40 → I x = I0 x) → x.toInt = (q : Int) - 2 → K7 v0 v1 x I L) :
    ∀ (k e : Nat) (v3 : Int32) (I : jI), KM + 2 ≤ k + e → e ≤ KM + 1 → v3.toInt = (e : Int) → MVm Z I v0 t37 t38 lp n op C E → BTs I t40 lp n op C E KM q e → (∀ x, x ≠ t40 → I x = I0 x) → f_X12_findByEffort_L14 K7 Z Q k v0 v1 v2 v3 I L := by
  have z0 : (0 : Int32).toInt = 0 := rfl
  have z1 : (1 : Int32).toInt = 1 := rfl
  have zm : (-1 : Int32).toInt = -1 := by decide
  intro k
  induction k with
  | zero => intro e v3 I hk1 h1; omega
  | succ k ih =>
    intro e v3 I hk1 h1 e3v hM hT hI
    unfold f_X12_findByEffort_L14
    refine ⟨fun c x ex => ?_, fun c => ?_⟩
    · have c := (i_lt e1v e3v).mp c
      have ee : e = KM + 1 := by omega
      rw [ee] at hT
      exact hk I x hM hT hI (by rw [ex]; exact (i_add e2v zm (by omega) (by omega)).trans (by omega))
    have c := (not_congr (i_lt e1v e3v)).mp c
    have tn : ((I v0 0) - (1 : Int32)).toInt = (n : Int) - 1 := i_sub hM.2.1 z1 (by omega) (by omega)
    have go : ∀ s0 : Int32, (q < n → s0.toInt = FARm) → (q = n → s0.toInt = if (e : Int) = 0 then 0 else FARm) → f_X12_findByEffort_b40 K7 (f_X12_findByEffort_L14 K7 Z Q k) Z Q v0 v1 v2 v3 s0 I L := fun s0 h1 h2 => by
      unfold f_X12_findByEffort_b40
      refine ⟨5, fbe_L45 v0 t37 t38 t40 lp n op C E hM h40 hlp hn hC hE q e KM hq (by omega) hKM v1 v2 v3 e2v e3v hT (fun w x6 hw e6 => ?_) 5 1 s0 1 (Nat.le_refl _) (by omega) (by omega) rfl (fun hqn => by rw [h1 hqn]; exact BSw_1) h2⟩
      exact ih (e + 1) x6 _ (by omega) (by omega) e6 (MVm_t40 hM h0 (fun x hx => jpI_ne hx)) (BTs_put hKM (by omega) hT hw) (fun x hx => (jpI_ne hx).trans (hI x hx))
    refine ⟨fun c2 => ?_, fun c2 => ⟨fun c3 => ?_, fun c3 => ?_⟩⟩
    · have c2 := (not_congr (i_eq e2v tn)).mp c2
      unfold f_X12_findByEffort_b37
      exact go _ (fun _ => rfl) (fun hqn => by omega)
    · have c2 := (i_eq e2v tn).mp c2
      have c3 := (not_congr (i_eq e3v z0)).mp c3
      unfold f_X12_findByEffort_b37
      exact go _ (fun _ => rfl) (fun hqn => by rw [if_neg (by omega)]; rfl)
    · have c2 := (i_eq e2v tn).mp c2
      have c3 := (i_eq e3v z0).mp c3
      exact go _ (fun hqn => by omega) (fun hqn => by rw [if_pos (by omega)]; rfl)
theorem fbe_L7 {Z : jZ} {L : jL} (v0 t37 t38 t40 lp n : Nat) (op : Nat → Prop) (C E : Nat → Nat → Int) (h40 : jr Z v0 40 = some t40) (h0 : t40 ≠ v0 ∧ t40 ≠ t37 ∧ t40 ≠ t38) (hlp : lp ≤ 3) (hn : n ≤ 24) (hC : ∀ p f, 0 ≤ C p f ∧ C p f ≤ 297) (hE : ∀ p f, 0 ≤ E p f ∧ E p f ≤ 600) (KM : Nat) (hKM : KM ≤ 999) (v1 : Int32) (e1v : v1.toInt = (KM : Int)) (I0 : jI) {Q : jI → jL → Prop}
    (hQ : ∀ (I : jI), MVm Z I v0 t37 t38 lp n op C E → (∀ q e : Nat, q ≤ n → e ≤ KM → BSs lp n op C E q (e : Int) (I t40 (1000 * q + e)).toInt) → (∀ x, x ≠ t40 → I x = I0 x) → Q I L) :
    ∀ (k q : Nat) (v2 : Int32) (I : jI), q + 1 ≤ k → q ≤ n + 1 → v2.toInt = (q : Int) - 2 → MVm Z I v0 t37 t38 lp n op C E → (∀ q' e' : Nat, q' ≤ n → e' ≤ KM → q ≤ q' → BSs lp n op C E q' (e' : Int) (I t40 (1000 * q' + e')).toInt) → (∀ x, x ≠ t40 → I x = I0 x) → f_X12_findByEffort_L7 Z Q k v0 v1 v2 I L := by
  have zm : (-1 : Int32).toInt = -1 := by decide
  intro k
  induction k with
  | zero => intro q v2 I hk1; omega
  | succ k ih =>
    intro q v2 I hk1 h1 e2v hM hT hI
    unfold f_X12_findByEffort_L7
    refine ⟨fun c => ?_, fun c => ?_⟩
    · have c := (i_lt e2v zm).mp c
      exact hQ I hM (fun q' e' h1 h2 => hT q' e' h1 h2 (by omega)) hI
    · have c := (not_congr (i_lt e2v zm)).mp c
      obtain ⟨q', rfl⟩ : ∃ q', q = q' + 1 := ⟨q - 1, by omega⟩
      refine ⟨KM + 2, fbe_L14 v0 t37 t38 t40 lp n op C E h40 h0 hlp hn hC hE q' KM (by omega) hKM v1 v2 e1v (by omega) I0 (fun I' x hM' hT' hI' ex => ?_) (KM + 2) 0 0 I (by omega) (by omega) rfl hM (fun q2 e2 g1 g2 g3 => hT q2 e2 g1 g2 (by omega)) hI⟩
      exact ih q' x I' (by omega) (by omega) ex hM' (fun q2 e2 g1 g2 g3 => hT' q2 e2 g1 g2 (by omega)) hI'
theorem r_X12_findByEffort {Z : jZ} {I : jI} {L : jL} (w_I : WD Z I) (v0 : Nat) (kv0 : jk Z v0 12) (t37 t38 t40 lp n : Nat) (op : Nat → Prop) (C E : Nat → Nat → Int) (hM : MVm Z I v0 t37 t38 lp n op C E) (h40 : jr Z v0 40 = some t40) (h0 : t40 ≠ v0 ∧ t40 ≠ t37 ∧ t40 ≠ t38) (hlp : lp ≤ 3) (hn : n ≤ 24) (hC : ∀ p f, 0 ≤ C p f ∧ C p f ≤ 297) (hE : ∀ p f, 0 ≤ E p f ∧ E p f ≤ 600) (KM : Nat) (hKM : KM ≤ 999) (v1 : Int32) (e1v : v1.toInt = (KM : Int)) {Q : jI → jL → Prop}
    (hQ : ∀ (I' : jI), MVm Z I' v0 t37 t38 lp n op C E → (∀ q e : Nat, q ≤ n → e ≤ KM → BSs lp n op C E q (e : Int) (I' t40 (1000 * q + e)).toInt) → (∀ x, x ≠ t40 → I' x = I x) → Q I' L) : f_X12_findByEffort v0 v1 Z I L Q := by
  unfold f_X12_findByEffort
  intro x30 e30
  have t30 : x30.toInt = ((n + 1 : Nat) : Int) - 2 := by
    rw [e30]
    exact (i_sub hM.2.1 (show (1 : Int32).toInt = 1 from rfl) (by omega) (by omega)).trans (by omega)
  exact ⟨n + 2, fbe_L7 v0 t37 t38 t40 lp n op C E h40 h0 hlp hn hC hE KM hKM v1 e1v I hQ (n + 2) (n + 1) x30 I (by omega) (Nat.le_refl _) t30 hM (fun q' e' g1 g2 g3 => by omega) (fun _ _ => rfl)⟩
/-- the best rows, as a function -/
def BB (I : jI) (t40 : Nat) (q : Nat) (e : Int) : Int := (I t40 (1000 * q + e.toNat)).toInt
/-- a path written down: m steps from place i of the list on, the last place behind being q -/
def PTL (f : Nat → Int32) : Nat → Nat → Nat → Int → Prop
  | 0, _, _, b => b = 0
  | m + 1, i, q, b => ∃ p, q < p ∧ (f i).toInt = (p : Int) - 1 ∧ PTL f m (i + 1) p (b - btP p)
theorem c_isOn {Z : jZ} {I : jI} {L : jL} (v0 t37 t38 t40 lp n : Nat) (op : Nat → Prop) (C E : Nat → Nat → Int) (hM : MVm Z I v0 t37 t38 lp n op C E) (h40 : jr Z v0 40 = some t40) (hlp : lp ≤ 3) (hn : n ≤ 24) (hC : ∀ p f, 0 ≤ C p f ∧ C p f ≤ 297) (hE : ∀ p f, 0 ≤ E p f ∧ E p f ≤ 600) (q far e KM : Nat) (hq : q ≤ n) (h1 : 1 ≤ far) (h3 : far ≤ 3) (he : e ≤ KM) (hKM : KM ≤ 999) (hT : ∀ q e : Nat, q ≤ n → e ≤ KM → BSs lp n op C E q (e : Int) (I t40 (1000 * q + e)).toInt) (v1 v2 v3 : Int32) (e1v : v1.toInt = (q : Int) - 1) (e2v : v2.toInt = (far : Int)) (e3v : v3.toInt = (e : Int)) {Q : Int32 → jI → jL → Prop}
    (hQ1 : onW lp n op C E (BB I t40) q far (e : Int) → Q 1 I L) (hQ0 : ¬ onW lp n op C E (BB I t40) q far (e : Int) → Q 0 I L) : f_X12_isOn v0 v1 v2 v3 Z I L Q := by
  have z1 : (1 : Int32).toInt = 1 := rfl
  have z3 : (3 : Int32).toInt = 3 := rfl
  have zk : (1000 : Int32).toInt = 1000 := rfl
  have zh : (100 : Int32).toInt = 100 := rfl
  have zF : (1000000000 : Int32).toInt = 1000000000 := rfl
  have no := MVm_no hC hM hq h1 h3
  obtain ⟨⟨g37, g38⟩, hsz, -⟩ := hM
  have ta : (v1 + (1 : Int32)).toInt = (q : Int) := (i_add e1v z1 (by omega) (by omega)).trans (by omega)
  unfold f_X12_isOn
  intro x1 e1
  have t7 : x1.toInt = 3 * (q : Int) + (far : Int) - 1 := by
    rw [e1]
    exact i_sub (i_add (i_mul z3 ta (by omega) (by omega)) e2v (by omega) (by omega)) z1 (by omega) (by omega)
  have n7 : x1.toNatClampNeg = 3 * q + far - 1 := by have := i_nat t7 (by omega); omega
  have vi7 : vp_in x1 75 := vi_of t7 (by omega) (by omega)
  rw [n7]
  intro b h; cases g37.symm.trans h
  refine ⟨vi7, fun c2 => ?_, fun c2 => ?_⟩
  · have c2 := (i_eq rfl zF).mp c2
    exact hQ0 (fun ho => no.1 c2 ho.1)
  have c2 := (not_congr (i_eq rfl zF)).mp c2
  obtain ⟨ha, ec, ee⟩ := no.2 c2
  have c9 := hC (q + far) far
  have e9 := hE (q + far) far
  have haq := ha.2.2.1
  intro b h; cases g38.symm.trans h
  refine ⟨vi7, fun c3 => ?_, fun c3 => ?_⟩
  · have c3 := (i_le ee e3v).mp c3
    intro b h; cases h40.symm.trans h
    intro b h; cases g38.symm.trans h
    have tb : ((v1 + v2) + (1 : Int32)).toInt = (q : Int) + (far : Int) := (i_add (i_add e1v e2v (by omega) (by omega)) z1 (by omega) (by omega)).trans (by omega)
    have t8 : ((((1000 : Int32) * ((v1 + v2) + (1 : Int32))) + v3) - (I t38 (3 * q + far - 1))).toInt = 1000 * ((q : Int) + (far : Int)) + (e : Int) - E (q + far) far := i_sub (i_add (i_mul zk tb (by omega) (by omega)) e3v (by omega) (by omega)) ee (by omega) (by omega)
    have n8 := i_nat t8 (by omega)
    refine ⟨vi7, vi_of t8 (by omega) (by omega), fun x12 e12 => ?_⟩
    rw [show ((((1000 : Int32) * ((v1 + v2) + (1 : Int32))) + v3) - (I t38 (3 * q + far - 1))).toNatClampNeg = 1000 * (q + far) + (e - (E (q + far) far).toNat) by omega] at e12
    have bs := hT (q + far) (e - (E (q + far) far).toNat) haq (by omega)
    rw [← e12] at bs
    have br := BS_rng hn hC hE bs
    have eB : BB I t40 (q + far) ((e : Int) - E (q + far) far) = x12.toInt := by
      unfold BB
      rw [e12, show ((e : Int) - E (q + far) far).toNat = e - (E (q + far) far).toNat by omega]
    have eB2 : BB I t40 q (e : Int) = (I t40 (1000 * q + e)).toInt := by
      unfold BB
      rw [show ((e : Int)).toNat = e by omega]
    refine ⟨fun c4 => ?_, fun c4 => ?_⟩
    · have c4 := (i_eq rfl zF).mp c4
      refine hQ0 (fun ho => ho.2.2.1 ?_)
      rw [eB]
      exact c4
    have c4 := (not_congr (i_eq rfl zF)).mp c4
    intro b h; cases g37.symm.trans h
    refine ⟨vi7, ?_⟩
    intro b h; cases h40.symm.trans h
    have t : (((1000 : Int32) * (v1 + (1 : Int32))) + v3).toInt = 1000 * (q : Int) + (e : Int) := i_add (i_mul zk ta (by omega) (by omega)) e3v (by omega) (by omega)
    have tn := i_nat t (by omega)
    have tc : ((x12 + ((100 : Int32) * (I t37 (3 * q + far - 1)))) + (1 : Int32)).toInt = x12.toInt + 100 * C (q + far) far + 1 := i_add (i_add rfl (i_mul zh ec (by omega) (by omega)) (by omega) (by omega)) z1 (by omega) (by omega)
    refine ⟨vi_of t (by omega) (by omega), ?_⟩
    rw [show (((1000 : Int32) * (v1 + (1 : Int32))) + v3).toNatClampNeg = 1000 * q + e by omega]
    refine ⟨fun c5 => hQ0 (fun ho => ?_), fun c5 => hQ1 ⟨ha, c3, ?_, ?_⟩⟩
    · have c5 := (not_congr (i_eq tc rfl)).mp c5
      have := ho.2.2.2
      rw [eB, eB2] at this
      omega
    · rw [eB]; exact c4
    · have c5 := (i_eq tc rfl).mp c5
      rw [eB, eB2]
      omega
  · have c3 := (not_congr (i_le ee e3v)).mp c3
    refine hQ0 (fun ho => ?_)
    have := ho.2.1
    omega
/-- there is a move on the way -/
theorem onW_is {lp n : Nat} {op : Nat → Prop} {C E : Nat → Nat → Int} {I : jI} {t40 KM : Nat} (hn : n ≤ 24) (hC : ∀ p f, 0 ≤ C p f ∧ C p f ≤ 297) (hE : ∀ p f, 0 ≤ E p f ∧ E p f ≤ 600) (hT : ∀ q e : Nat, q ≤ n → e ≤ KM → BSs lp n op C E q (e : Int) (I t40 (1000 * q + e)).toInt) {q e : Nat} (hq : q < n) (he : e ≤ KM) (h : (I t40 (1000 * q + e)).toInt ≠ FARm) : ∃ far, onW lp n op C E (BB I t40) q far (e : Int) := by
  have bq := hT q e (by omega) he
  have eB2 : BB I t40 q (e : Int) = (I t40 (1000 * q + e)).toInt := by
    unfold BB
    rw [show ((e : Int)).toNat = e by omega]
  rcases bq with ⟨g, -⟩ | ⟨-, ⟨m, c, b, hx, ev⟩, low⟩
  · exact absurd g h
  · cases m with
    | zero => have := hx.1; omega
    | succ m =>
      obtain ⟨far, f1, f2, f3, hx1⟩ := PX_head _ _ _ _ _ _ hx
      have l := PX_le _ _ _ _ _ _ hx1
      have r := PX_up_rng hn hC hE hx1
      have ha : alu lp n op q far := ⟨f1, f2, by omega, f3⟩
      have e9 := hE (q + far) far
      have b1 := hT (q + far) (e - (E (q + far) far).toNat) (by omega) (by omega)
      have eB : BB I t40 (q + far) ((e : Int) - E (q + far) far) = (I t40 (1000 * (q + far) + (e - (E (q + far) far).toNat))).toInt := by
        unfold BB
        rw [show ((e : Int) - E (q + far) far).toNat = e - (E (q + far) far).toNat by omega]
      rw [show ((e - (E (q + far) far).toNat : Nat) : Int) = (e : Int) - E (q + far) far by omega] at b1
      rcases b1 with ⟨-, g⟩ | ⟨g, ⟨m1, c1, b1, hx2, ev2⟩, low2⟩
      · exact absurd hx1 (g _ _ _)
      · have a1 := low2 _ _ _ hx1
        have a2 := low _ _ _ (PX_up ha hx2)
        refine ⟨far, ha, by omega, by rw [eB]; exact g, ?_⟩
        rw [eB, eB2]
        omega
set_option maxHeartbeats 4000000 in
theorem fc_L131 {B : Nat × Nat} {Z : jZ} {L : jL} (v0 t37 t38 t40 t44 lp n : Nat) (op : Nat → Prop) (C E : Nat → Nat → Int) (h40 : jr Z v0 40 = some t40) (h44 : jr Z v0 44 = some t44) (h0 : t44 ≠ v0 ∧ t44 ≠ t37 ∧ t44 ≠ t38 ∧ t44 ≠ t40 ∧ t37 ≠ v0 ∧ t38 ≠ v0 ∧ t40 ≠ v0) (hlp : lp ≤ 3) (hn : n ≤ 24) (hC : ∀ p f, 0 ≤ C p f ∧ C p f ≤ 297) (hE : ∀ p f, 0 ≤ E p f ∧ E p f ≤ 600) (KM : Nat) (hKM : KM ≤ 999) (I0 : jI) (hM0 : MVm Z I0 v0 t37 t38 lp n op C E) (hT : ∀ q e : Nat, q ≤ n → e ≤ KM → BSs lp n op C E q (e : Int) (I0 t40 (1000 * q + e)).toInt) {Q : Int32 → jZ → jI → jL → Prop} :
    ∀ (k q e i : Nat) (v3 v4 : Int32) (I : jI), n + 1 ≤ k + q → q ≤ n → i ≤ q → e ≤ KM → v3.toInt = (q : Int) - 1 → v4.toInt = (e : Int) → (I v0 43).toInt = (i : Int) → (I0 t40 (1000 * q + e)).toInt ≠ FARm → (∀ x, x ≠ v0 → x ≠ t44 → I x = I0 x) → (∀ j, j ≠ 43 → I v0 j = I0 v0 j) →
      (∀ (m : Nat) (c b : Int) (I' : jI), WAY lp n op C E (BB I0 t40) m q c (e : Int) b → (I' v0 43).toInt = (i : Int) + (m : Int) → PTL (I' t44) m i q b → (∀ j, j < i → I' t44 j = I t44 j) → (∀ x, x ≠ v0 → x ≠ t44 → I' x = I0 x) → (∀ j, j ≠ 43 → I' v0 j = I0 v0 j) → Q 1 Z I' L) → f_X12_findClimb_L131 B Q k v0 v3 v4 Z I L := by
  have z1 : (1 : Int32).toInt = 1 := rfl
  have z3 : (3 : Int32).toInt = 3 := rfl
  intro k
  induction k with
  | zero => intro q e i v3 v4 I hk hq; omega
  | succ k ih =>
    intro q e i v3 v4 I hk hq hi he e3v e4v ei hB hI hI0 hQ
    have a0 : I v0 0 = I0 v0 0 := hI0 0 (by decide)
    have i40 : I t40 = I0 t40 := hI t40 h0.2.2.2.2.2.2 h0.2.2.2.1.symm
    have i37 : I t37 = I0 t37 := hI t37 h0.2.2.2.2.1 h0.2.1.symm
    have i38 : I t38 = I0 t38 := hI t38 h0.2.2.2.2.2.1 h0.2.2.1.symm
    have hM : MVm Z I v0 t37 t38 lp n op C E := by
      obtain ⟨g1, g2, g3⟩ := hM0
      refine ⟨g1, by rw [a0]; exact g2, ?_⟩
      rw [i37, i38]
      exact g3
    have tn : ((I v0 0) - (1 : Int32)).toInt = (n : Int) - 1 := i_sub hM.2.1 z1 (by omega) (by omega)
    unfold f_X12_findClimb_L131
    refine ⟨fun c => ?_, fun c => ?_⟩
    · have c := (i_le tn e3v).mp c
      have eq : q = n := by omega
      have e0 : e = 0 := by
        rcases hT q e hq he with ⟨g, -⟩ | ⟨-, ⟨m, c, b, hx, -⟩, -⟩
        · exact absurd g hB
        · have l := PX_le _ _ _ _ _ _ hx
          have em : m = 0 := by omega
          subst em
          have := hx.2.2.1
          omega
      exact hQ 0 0 0 I ⟨eq, rfl, by omega, rfl⟩ (by rw [ei]; exact (Int.add_zero _).symm) rfl (fun _ _ => rfl) hI hI0
    · have c := (not_congr (i_le tn e3v)).mp c
      have hqn : q < n := by omega
      obtain ⟨far0, hon0⟩ := onW_is hn hC hE hT hqn he hB
      have hBB : BB I t40 = BB I0 t40 := by
        unfold BB
        rw [i40]
      suffices lp144 : ∀ (j far : Nat) (v5 : Int32), 1 ≤ far → far ≤ far0 → far0 + 1 ≤ j + far → v5.toInt = (far : Int) → (∀ f, f < far → ¬ onW lp n op C E (BB I0 t40) q f (e : Int)) → f_X12_findClimb_L144 B (f_X12_findClimb_L131 B Q k) Q j v0 v3 v4 v5 Z I L by
        refine ⟨far0 + 1, lp144 (far0 + 1) 1 1 (Nat.le_refl _) hon0.1.1 (by omega) rfl (fun f hf ho => ?_)⟩
        have := ho.1.1
        omega
      intro j
      induction j with
      | zero => intro far v5 h1 h2 h3; omega
      | succ j ihj =>
        intro far v5 h1 h2 h3 e5v hno
        have f3 : far0 ≤ 3 := by have := hon0.1.2.1; omega
        unfold f_X12_findClimb_L144
        refine c_isOn v0 t37 t38 t40 lp n op C E hM h40 hlp hn hC hE q far e KM hq h1 (by omega) he hKM (by rw [i40]; exact hT) v3 v5 v4 e3v e5v e4v (fun ho => ⟨fun _ => ?_, fun c3 => absurd c3 (by decide)⟩) (fun ho => ⟨fun c3 => absurd rfl c3, fun _ x17 e17 => ?_⟩)
        · rw [hBB] at ho
          have ha := ho.1
          have haq := ha.2.2.1
          have g := (hM.2.2 q far hq h1 (by omega)).1 ha
          have e9 := hE (q + far) far
          have hle := ho.2.1
          have ta : (v3 + (1 : Int32)).toInt = (q : Int) := (i_add e3v z1 (by omega) (by omega)).trans (by omega)
          have t7 : ((((3 : Int32) * (v3 + (1 : Int32))) + v5) - (1 : Int32)).toInt = 3 * (q : Int) + (far : Int) - 1 := i_sub (i_add (i_mul z3 ta (by omega) (by omega)) e5v (by omega) (by omega)) z1 (by omega) (by omega)
          have n7 : ((((3 : Int32) * (v3 + (1 : Int32))) + v5) - (1 : Int32)).toNatClampNeg = 3 * q + far - 1 := by have := i_nat t7 (by omega); omega
          intro b h; cases hM.1.2.symm.trans h
          refine ⟨vi_of t7 (by omega) (by omega), fun x11 e11 x12 e12 => ?_⟩
          rw [n7] at e11
          have t11 : x11.toInt = ((e - (E (q + far) far).toNat : Nat) : Int) := by
            rw [e11]
            exact (i_sub e4v g.2 (by omega) (by omega)).trans (by omega)
          have t12 : x12.toInt = ((q + far : Nat) : Int) - 1 := by
            rw [e12]
            exact (i_add e3v e5v (by omega) (by omega)).trans (by omega)
          intro b h; cases h44.symm.trans h
          refine ⟨vi_of ei (by omega) (by omega), fun I15 e15 I16 e16 => ?_⟩
          have ni : (I v0 43).toNatClampNeg = i := by have := i_nat ei (by omega); omega
          rw [ni] at e15
          have a43 : I15 v0 43 = I v0 43 := by rw [e15, jpI_ne h0.1.symm]
          have t43 : (I16 v0 43).toInt = ((i + 1 : Nat) : Int) := by
            rw [e16, jpI_at, a43]
            exact (i_add ei z1 (by omega) (by omega)).trans (by omega)
          have fx : ∀ x, x ≠ v0 → x ≠ t44 → I16 x = I0 x := fun x h1 h2 => by rw [e16, jpI_ne h1, e15, jpI_ne h2]; exact hI x h1 h2
          have fj : ∀ j, j ≠ 43 → I16 v0 j = I0 v0 j := fun j hj => by rw [e16, jpI_off hj, e15, jpI_ne h0.1.symm]; exact hI0 j hj
          have f44 : I16 t44 i = x12 := by rw [e16, jpI_ne h0.1, e15, jpI_at]
          have f44' : ∀ j, j ≠ i → I16 t44 j = I t44 j := fun j hj => by rw [e16, jpI_ne h0.1, e15, jpI_off hj]
          have eE : ((e - (E (q + far) far).toNat : Nat) : Int) = (e : Int) - E (q + far) far := by omega
          have hB2 : (I0 t40 (1000 * (q + far) + (e - (E (q + far) far).toNat))).toInt ≠ FARm := by
            have := ho.2.2.1
            unfold BB at this
            rw [show ((e : Int) - E (q + far) far).toNat = e - (E (q + far) far).toNat by omega] at this
            exact this
          refine ih (q + far) (e - (E (q + far) far).toNat) (i + 1) x12 x11 I16 (by omega) haq (by omega) (by omega) t12 t11 t43 hB2 fx fj (fun m c b I' hW h43 hP hold hx' hj' => ?_)
          refine hQ (m + 1) (c + C (q + far) far) (b + btP (q + far)) I' ⟨hqn, far, ho, hno, ?_⟩ (by omega) ⟨q + far, by omega, ?_, ?_⟩ (fun j hj => ?_) hx' hj'
          · rw [eE] at hW
            rw [show c + C (q + far) far - C (q + far) far = c by omega, show b + btP (q + far) - btP (q + far) = b by omega]
            exact hW
          · rw [hold i (by omega), f44]
            exact t12
          · rw [show b + btP (q + far) - btP (q + far) = b by omega]
            exact hP
          · rw [hold j (by omega)]
            exact f44' j (by omega)
        · rw [hBB] at ho
          have hne : far ≠ far0 := fun q9 => ho (by rw [q9]; exact hon0)
          refine ihj (far + 1) x17 (by omega) (by omega) (by omega) (by rw [e17]; exact (i_add e5v z1 (by omega) (by omega)).trans (by omega)) (fun f hf => ?_)
          by_cases c9 : f = far
          · rw [c9]; exact ho
          · exact hno f (by omega)
/-- what the reference answers of its cheapest climb -/
def CLR (lp n : Nat) (op : Nat → Prop) (C E : Nat → Nat → Int) (K P : Int) (I : jI) (v0 t44 : Nat) (r : Int32) : Prop := (r.toInt = 0 ∧ ∀ m c e b, ¬ FEA lp n op C E K P m c e b) ∨ (r.toInt = 1 ∧ ∃ m c e b, LST lp n op C E K P m c e b ∧ (I v0 41).toInt = c ∧ (I v0 42).toInt = e ∧ (I v0 43).toInt = (m : Int) ∧ PTL (I t44) m 0 0 b)
set_option maxHeartbeats 4000000 in
theorem fc_L19 {B : Nat × Nat} {Z : jZ} {I : jI} {L : jL} (v0 t9 t10 t37 t38 t40 t44 lp n : Nat) (op : Nat → Prop) (C E : Nat → Nat → Int) (hM : MVm Z I v0 t37 t38 lp n op C E) (h9 : jr Z v0 9 = some t9) (h10 : jr Z v0 10 = some t10) (h40 : jr Z v0 40 = some t40) (h44 : jr Z v0 44 = some t44) (h0 : t44 ≠ v0 ∧ t44 ≠ t37 ∧ t44 ≠ t38 ∧ t44 ≠ t40 ∧ t37 ≠ v0 ∧ t38 ≠ v0 ∧ t40 ≠ v0) (hlp : lp ≤ 3) (hn : n ≤ 24) (hC : ∀ p f, 0 ≤ C p f ∧ C p f ≤ 297) (hE : ∀ p f, 0 ≤ E p f ∧ E p f ≤ 600) (v1 : Int32) (pi : Nat) (e1v : v1.toInt = (pi : Int)) (hpi : pi < 6) (KM : Nat) (hKM : KM ≤ 999) (eKM : (I t9 pi).toInt = (KM : Int)) (P : Int) (eP : (I t10 pi).toInt = P) (hT : ∀ q e : Nat, q ≤ n → e ≤ KM → BSs lp n op C E q (e : Int) (I t40 (1000 * q + e)).toInt) {Q : Int32 → jZ → jI → jL → Prop}
    (hQ : ∀ (r : Int32) (I' : jI), CLR lp n op C E (KM : Int) P I' v0 t44 r → (∀ x, x ≠ v0 → x ≠ t44 → I' x = I x) → (∀ j, j ≠ 41 → j ≠ 42 → j ≠ 43 → I' v0 j = I v0 j) → Q r Z I' L) :
    ∀ (k e : Nat) (v2 v3 : Int32), KM + 2 ≤ k + e → e ≤ KM + 1 → v3.toInt = (e : Int) → v2.toInt = selE P (fun e => BB I t40 0 (e : Int)) e → f_X12_findClimb_L19 B Q k v0 v1 v2 v3 Z I L := by
  have z1 : (1 : Int32).toInt = 1 := rfl
  have zm : (-1 : Int32).toInt = -1 := by decide
  have zh : (100 : Int32).toInt = 100 := rfl
  have zF : (1000000000 : Int32).toInt = 1000000000 := rfl
  have qn : v1.toNatClampNeg = pi := by have := i_nat e1v (by omega); omega
  have vi1 : vp_in v1 6 := vi_of e1v (by omega) (by omega)
  have eB : ∀ e : Nat, BB I t40 0 (e : Int) = (I t40 e).toInt := fun e => by
    unfold BB
    rw [show 1000 * 0 + ((e : Int)).toNat = e by omega]
  have hB0 : ∀ e : Nat, e ≤ KM → BSs lp n op C E 0 (e : Int) (I t40 e).toInt := fun e he => by
    have := hT 0 e (Nat.zero_le _) he
    rw [show 1000 * 0 + e = e by omega] at this
    exact this
  have hBB : ∀ q (e : Int), q ≤ n → 0 ≤ e → e ≤ (KM : Int) → BSs lp n op C E q e (BB I t40 q e) := fun q e hq h1 h2 => by
    have := hT q e.toNat hq (by omega)
    rw [show ((e.toNat : Nat) : Int) = e by omega] at this
    exact this
  intro k
  induction k with
  | zero => intro e v2 v3 hk1 h1; omega
  | succ k ih =>
    intro e v2 v3 hk1 h1 e3v hsel
    unfold f_X12_findClimb_L19
    intro b h; cases h9.symm.trans h
    rw [qn]
    refine ⟨vi1, fun c => ?_, fun c => ?_⟩
    · have c := (i_lt eKM e3v).mp c
      have ee : e = KM + 1 := by omega
      rw [ee] at hsel
      refine ⟨fun c2 => ?_, fun c2 => ?_⟩
      · have c2 := (not_congr (i_eq rfl zm)).mp c2
        rcases selE_is (P := P) (B := fun e => BB I t40 0 (e : Int)) (KM + 1) with ⟨q1, -⟩ | ⟨e0, q0, q1, q2, q3, q4⟩
        · rw [q1] at hsel; exact absurd hsel c2
        · rw [q1] at hsel
          have q2 : BB I t40 0 (e0 : Int) ≠ FARm := q2
          rw [eB] at q2
          have n2 : v2.toNatClampNeg = e0 := by have := i_nat hsel (by omega); omega
          have br := BS_rng hn hC hE (hB0 e0 (by omega))
          intro b h; cases h40.symm.trans h
          refine ⟨vi_of hsel (by omega) (by omega), fun I27 e27 I28 e28 I29 e29 => ?_⟩
          rw [n2] at e27
          have tdiv : ((I t40 e0) / (100 : Int32)).toInt = (I t40 e0).toInt / 100 := i_div rfl zh (by unfold FARm at q2; omega) (by omega)
          have fx : ∀ x, x ≠ v0 → I29 x = I x := fun x hx => by rw [e29, jpI_ne hx, e28, jpI_ne hx, e27, jpI_ne hx]
          have fj : ∀ j, j ≠ 41 → j ≠ 42 → j ≠ 43 → I29 v0 j = I v0 j := fun j j1 j2 j3 => by rw [e29, jpI_off j3, e28, jpI_off j2, e27, jpI_off j1]
          have f41 : I29 v0 41 = (I t40 e0) / (100 : Int32) := by rw [e29, jpI_off (by decide), e28, jpI_off (by decide), e27, jpI_at]
          have f42 : I29 v0 42 = v2 := by rw [e29, jpI_off (by decide), e28, jpI_at]
          have f43 : I29 v0 43 = 0 := by rw [e29, jpI_at]
          have i40 : I29 t40 = I t40 := fx t40 h0.2.2.2.2.2.2
          have hM9 : MVm Z I29 v0 t37 t38 lp n op C E := by
            obtain ⟨g1, g2, g3⟩ := hM
            refine ⟨g1, by rw [fj 0 (by decide) (by decide) (by decide)]; exact g2, ?_⟩
            rw [fx t37 h0.2.2.2.2.1, fx t38 h0.2.2.2.2.2.1]
            exact g3
          have e40 : BB I29 t40 = BB I t40 := by
            unfold BB
            rw [i40]
          refine ⟨n + 1, fc_L131 v0 t37 t38 t40 t44 lp n op C E h40 h44 h0 hlp hn hC hE KM hKM I29 hM9 (by rw [i40]; exact hT) (n + 1) 0 e0 0 (-1) v2 I29 (by omega) (Nat.zero_le _) (Nat.le_refl _) (by omega) (by decide) hsel (by rw [f43]; rfl) ?_ (fun _ _ _ => rfl) (fun _ _ => rfl) (fun m c' b' I' hW h43 hP hold hx' hj' => ?_)⟩
          · rw [i40, show 1000 * 0 + e0 = e0 by omega]
            exact q2
          · rw [e40] at hW
            have wi := WAY_is hn hC hE hBB m 0 c' (e0 : Int) b' (Nat.zero_le _) (by omega) (by omega) hW
            have lst := WAY_lst hn hC hE hBB (K := (KM : Int)) (P := P) ⟨by omega, by omega⟩ (by rw [show ((KM : Int)).toNat = KM by omega]; exact q1) hW
            have r := PX_up_rng hn hC hE wi.1
            have w2 := wi.2.1
            rw [eB] at w2
            refine hQ 1 I' (Or.inr ⟨rfl, m, c', (e0 : Int), b', lst, ?_, ?_, ?_, hP⟩) (fun x h1 h2 => (hx' x h1 h2).trans (fx x h1)) (fun j j1 j2 j3 => (hj' j j3).trans (fj j j1 j2 j3))
            · rw [hj' 41 (by decide), f41, tdiv, w2]
              omega
            · rw [hj' 42 (by decide), f42]
              exact hsel
            · rw [h43]
              exact Int.zero_add _
      · have c2 := (i_eq rfl zm).mp c2
        rw [c2] at hsel
        exact hQ 0 I (Or.inl ⟨rfl, sel_none hn hC hE hBB (K := (KM : Int)) (P := P) (by rw [show ((KM : Int)).toNat = KM by omega]; exact hsel.symm)⟩) (fun _ _ _ => rfl) (fun _ _ _ _ => rfl)
    · have c := (not_congr (i_lt eKM e3v)).mp c
      have he : e ≤ KM := by omega
      have n3 : v3.toNatClampNeg = e := by have := i_nat e3v (by omega); omega
      have vi3 : vp_in v3 25000 := vi_of e3v (by omega) (by omega)
      have br := BS_rng hn hC hE (hB0 e he)
      have step : selE P (fun e => BB I t40 0 (e : Int)) (e + 1) = if BB I t40 0 (e : Int) = FARm ∨ P < BB I t40 0 (e : Int) / 100 then selE P (fun e => BB I t40 0 (e : Int)) e else if selE P (fun e => BB I t40 0 (e : Int)) e = -1 ∨ BB I t40 0 (e : Int) / 100 < BB I t40 0 (((selE P (fun e => BB I t40 0 (e : Int)) e).toNat : Nat) : Int) / 100 then (e : Int) else selE P (fun e => BB I t40 0 (e : Int)) e := rfl
      rw [eB, eB] at step
      have nx : ∀ x : Int32, x = v3 + 1 → x.toInt = ((e + 1 : Nat) : Int) := fun x ex => by
        rw [ex]
        exact (i_add e3v z1 (by omega) (by omega)).trans (by omega)
      have keep : selE P (fun e => BB I t40 0 (e : Int)) (e + 1) = selE P (fun e => BB I t40 0 (e : Int)) e → f_X12_findClimb_b90 B (f_X12_findClimb_L19 B Q k) Q v0 v1 v2 v3 Z I L := fun hs => by
        unfold f_X12_findClimb_b90
        intro x ex
        exact ih (e + 1) v2 x (by omega) (by omega) (nx x ex) (by rw [hs]; exact hsel)
      have take : selE P (fun e => BB I t40 0 (e : Int)) (e + 1) = (e : Int) → f_X12_findClimb_b88 B (f_X12_findClimb_L19 B Q k) Q v0 v1 v3 Z I L := fun hs => by
        unfold f_X12_findClimb_b88 f_X12_findClimb_b90
        intro x ex
        exact ih (e + 1) v3 x (by omega) (by omega) (nx x ex) (by rw [hs]; exact e3v)
      intro b h; cases h40.symm.trans h
      rw [n3]
      refine ⟨vi3, fun c2 => ?_, fun c2 => ?_⟩
      · have c2 := (i_eq rfl zF).mp c2
        refine keep ?_
        rw [step, if_pos (show (I t40 e).toInt = FARm ∨ P < (I t40 e).toInt / 100 from Or.inl c2)]
      have c2 := (not_congr (i_eq rfl zF)).mp c2
      have tdiv : ((I t40 e) / (100 : Int32)).toInt = (I t40 e).toInt / 100 := i_div rfl zh (by omega) (by omega)
      intro b h; cases h40.symm.trans h
      refine ⟨vi3, ?_⟩
      intro b h; cases h10.symm.trans h
      refine ⟨vi1, fun c3 => ?_, fun c3 => ?_⟩
      · have c3 := (i_le tdiv eP).mp c3
        have nf : ¬ ((I t40 e).toInt = FARm ∨ P < (I t40 e).toInt / 100) := fun q => by
          rcases q with q | q
          · exact c2 q
          · omega
        rw [if_neg nf] at step
        refine ⟨fun c4 => ?_, fun c4 => ?_⟩
        · have c4 := (i_eq rfl zm).mp c4
          refine take ?_
          rw [step, if_pos (Or.inl (by rw [← hsel]; exact c4))]
        have c4 := (not_congr (i_eq rfl zm)).mp c4
        rcases selE_is (P := P) (B := fun e => BB I t40 0 (e : Int)) e with ⟨q1, -⟩ | ⟨e0, q0, q1, q2, q3, q4⟩
        · rw [q1] at hsel; exact absurd hsel c4
        rw [q1] at hsel step
        have q2 : BB I t40 0 (e0 : Int) ≠ FARm := q2
        rw [eB] at q2
        have b0r := BS_rng hn hC hE (hB0 e0 (by omega))
        have n2 : v2.toNatClampNeg = e0 := by have := i_nat hsel (by omega); omega
        have tdiv0 : ((I t40 e0) / (100 : Int32)).toInt = (I t40 e0).toInt / 100 := i_div rfl zh (by unfold FARm at q2; omega) (by omega)
        rw [show ((e0 : Int)).toNat = e0 by omega] at step
        intro b h; cases h40.symm.trans h
        refine ⟨vi3, ?_⟩
        intro b h; cases h40.symm.trans h
        rw [n2]
        refine ⟨vi_of hsel (by omega) (by omega), fun c5 => ?_, fun c5 => ?_⟩
        · have c5 := (i_le tdiv0 tdiv).mp c5
          refine keep ?_
          rw [step, if_neg (fun q => by rcases q with q | q <;> omega), q1]
        · have c5 := (not_congr (i_le tdiv0 tdiv)).mp c5
          refine take ?_
          rw [step, if_pos (Or.inr (by omega))]
      · have c3 := (not_congr (i_le tdiv eP)).mp c3
        refine keep ?_
        rw [step, if_pos (Or.inr (by omega))]
/-! ===== what a move costs, and its effort ===== -/
/-- prices (law, step, from, leapt, load) of leapt steps from step s on -/
def CSm (PR : Int → Int → Int → Int → Int → Int) (fr lp ld : Int) : Nat → Int → Int
  | 0, _ => 0
  | k + 1, s => PR 1 s fr lp ld + CSm PR fr lp ld k (s + 1)
def CST (PR : Int → Int → Int → Int → Int → Int) (fr to ld : Int) : Int := PR 0 to fr (to - fr - 1) ld + CSm PR fr (to - fr - 1) ld (to - fr - 1).toNat (fr + 1)
def HSm (H : Int → Int) : Nat → Int → Int
  | 0, _ => 0
  | k + 1, s => H s + HSm H k (s + 1)
def EFT (H G : Int → Int) (fr to ld : Int) : Int := HSm H (to - fr).toNat (fr + 1) * (10 + ld) / 10 + (9 - G to) + 5 * (to - fr - 1)
theorem CSm_rng {PR : Int → Int → Int → Int → Int → Int} (hP : ∀ a b c d e, 0 ≤ PR a b c d e ∧ PR a b c d e ≤ 99) {fr lp ld : Int} : ∀ (k : Nat) (s : Int), 0 ≤ CSm PR fr lp ld k s ∧ CSm PR fr lp ld k s ≤ 99 * (k : Int) := by
  intro k
  induction k with
  | zero => intro s; exact ⟨Int.le_refl _, Int.le_refl _⟩
  | succ k ih =>
    intro s
    have a := hP 1 s fr lp ld
    have b := ih (s + 1)
    show 0 ≤ PR 1 s fr lp ld + CSm PR fr lp ld k (s + 1) ∧ PR 1 s fr lp ld + CSm PR fr lp ld k (s + 1) ≤ 99 * ((k + 1 : Nat) : Int)
    omega
theorem HSm_rng {H : Int → Int} (hH : ∀ s, 0 ≤ H s ∧ H s ≤ 30) : ∀ (k : Nat) (s : Int), 0 ≤ HSm H k s ∧ HSm H k s ≤ 30 * (k : Int) := by
  intro k
  induction k with
  | zero => intro s; exact ⟨Int.le_refl _, Int.le_refl _⟩
  | succ k ih =>
    intro s
    have a := hH s
    have b := ih (s + 1)
    show 0 ≤ H s + HSm H k (s + 1) ∧ H s + HSm H k (s + 1) ≤ 30 * ((k + 1 : Nat) : Int)
    omega
theorem CST_rng {PR : Int → Int → Int → Int → Int → Int} (hP : ∀ a b c d e, 0 ≤ PR a b c d e ∧ PR a b c d e ≤ 99) {fr to ld : Int} (h : to - fr ≤ 3) : 0 ≤ CST PR fr to ld ∧ CST PR fr to ld ≤ 297 := by
  have a := hP 0 to fr (to - fr - 1) ld
  have b := CSm_rng hP (fr := fr) (lp := to - fr - 1) (ld := ld) (to - fr - 1).toNat (fr + 1)
  unfold CST
  omega
theorem EFT_mul {S ld : Int} (h : 0 ≤ S ∧ S ≤ 90) (hl : 0 ≤ ld ∧ ld ≤ 50) : 0 ≤ S * (10 + ld) ∧ S * (10 + ld) ≤ 5400 := by
  have h1 : 0 ≤ S * (10 + ld) := Int.mul_nonneg h.1 (by omega)
  have h2 : S * (10 + ld) ≤ 90 * (10 + ld) := Int.mul_le_mul_of_nonneg_right h.2 (by omega)
  omega
theorem EFT_rng {H G : Int → Int} (hH : ∀ s, 0 ≤ H s ∧ H s ≤ 30) (hG : ∀ s, 0 ≤ G s ∧ G s ≤ 9) {fr to ld : Int} (h : to - fr ≤ 3) (h2 : fr < to) (hl : 0 ≤ ld ∧ ld ≤ 50) : 0 ≤ EFT H G fr to ld ∧ EFT H G fr to ld ≤ 600 := by
  have b := HSm_rng hH (to - fr).toNat (fr + 1)
  have g := hG to
  have m := EFT_mul (S := HSm H (to - fr).toNat (fr + 1)) (by omega) hl
  unfold EFT
  omega
/-- what the laying of a pilgrim's moves may change -/
def Wl : List (Nat × Nat) := [(3, 2), (6, 4), (6, 5), (6, 6), (6, 7), (6, 14), (6, 15), (8, 8)]
/-- prices of the class -/
def PRC (Z : jZ) (I0 : jI) (v8 : Nat) (n : Int) (PR : Int → Int → Int → Int → Int → Int) : Prop := ∀ (v1 v2 v3 v4 v5 : Int32) (I : jI) (L : jL) (Q : Int32 → jI → jL → Prop), WD Z I → FR Wl Z I0 Z I → 0 ≤ v1.toInt ∧ v1.toInt ≤ 1 → 0 ≤ v2.toInt ∧ v2.toInt < n → -1 ≤ v3.toInt ∧ v3.toInt < n → (∀ (r : Int32) (I' : jI) (L' : jL), WD Z I' → FR Ws_X8_priceOf Z I Z I' → r.toInt = PR v1.toInt v2.toInt v3.toInt v4.toInt v5.toInt → Q r I' L') → f_X8_priceOf v8 v1 v2 v3 v4 v5 Z I L Q
theorem Ws8_l : ∀ p ∈ Ws_X8_priceOf, p ∈ Wl := by decide
theorem c_cost_L24 {Z : jZ} {I0 I1 : jI} (w0 : WD Z I0) (w1 : WD Z I1) (v0 : Nat) (PR : Int → Int → Int → Int → Int → Int) {nn : Int} (hP : PRC Z I0 v0 nn PR) (hb : ∀ a b c d e, 0 ≤ PR a b c d e ∧ PR a b c d e ≤ 99) (f1 : FR Wl Z I0 Z I1) (v1 v2 v3 v4 : Int32) (fr to ld lp : Int) (e1v : v1.toInt = fr) (e2v : v2.toInt = to) (e3v : v3.toInt = ld) (e4v : v4.toInt = lp) (hf : -1 ≤ fr) (ht : to ≤ 23) (htn : to < nn) (X : Int) (hX : X ≤ 1000) {Q : Int32 → jI → jL → Prop}
    (hQ : ∀ (r : Int32) (I' : jI) (L' : jL), WD Z I' → FR Ws_X8_priceOf Z I1 Z I' → r.toInt = X → Q r I' L') :
    ∀ (k n : Nat) (v5 v6 : Int32) (a s : Int) (I : jI) (L : jL), k + 1 ≤ n → v5.toInt = a → v6.toInt = s → 0 ≤ a → fr < s → s + (k : Int) = to → a + CSm PR fr lp ld k s = X → WD Z I → FR Ws_X8_priceOf Z I1 Z I → f_X8_costOfMove_L24 Z Q n v0 v1 v2 v3 v4 v5 v6 I L := by
  have z1 : (1 : Int32).toInt = 1 := rfl
  intro k
  induction k with
  | zero =>
    intro n v5 v6 a s I L hn e5v e6v ha hs hk hx w f
    obtain ⟨n', rfl⟩ : ∃ n', n = n' + 1 := ⟨n - 1, by omega⟩
    unfold f_X8_costOfMove_L24
    refine ⟨fun _ => hQ v5 I L w f ?_, fun c => absurd ((i_le e2v e6v).mpr (by omega)) c⟩
    have hx : a + 0 = X := hx
    omega
  | succ k ih =>
    intro n v5 v6 a s I L hn e5v e6v ha hs hk hx w f
    obtain ⟨n', rfl⟩ : ∃ n', n = n' + 1 := ⟨n - 1, by omega⟩
    have hx : a + (PR 1 s fr lp ld + CSm PR fr lp ld k (s + 1)) = X := hx
    have c0 := CSm_rng hb (fr := fr) (lp := lp) (ld := ld) k (s + 1)
    have p0 := hb 1 s fr lp ld
    unfold f_X8_costOfMove_L24
    refine ⟨fun c => absurd ((i_le e2v e6v).mp c) (by omega), fun _ => ?_⟩
    refine hP 1 v6 v1 v4 v3 I L _ w (FR.trans w0.1 w0.2.1 f1 (f.mono Ws8_l)) (by rw [z1]; omega) (by omega) (by omega) (fun r I' L' w' f' er => ?_)
    rw [z1, e6v, e1v, e4v, e3v] at er
    intro x9 e9 x10 e10
    exact ih n' x9 x10 (a + PR 1 s fr lp ld) (s + 1) I' L' (by omega) (by rw [e9]; exact i_add e5v er (by omega) (by omega)) (by rw [e10]; exact i_add e6v z1 (by omega) (by omega)) (by omega) (by omega) (by omega) (by omega) w' (FR.trans w1.1 w1.2.1 f f')
theorem r_X8_costOfMove_f {Z : jZ} {I0 I : jI} {L : jL} (w0 : WD Z I0) (w : WD Z I) (v0 : Nat) (PR : Int → Int → Int → Int → Int → Int) {nn : Int} (hP : PRC Z I0 v0 nn PR) (hb : ∀ a b c d e, 0 ≤ PR a b c d e ∧ PR a b c d e ≤ 99) (f1 : FR Wl Z I0 Z I) (v1 v2 v3 : Int32) (fr to ld : Int) (e1v : v1.toInt = fr) (e2v : v2.toInt = to) (e3v : v3.toInt = ld) (hf : -1 ≤ fr) (hft : fr < to) (ht : to ≤ 23) (htn : to < nn) (h3 : to - fr ≤ 3) {Q : Int32 → jI → jL → Prop}
    (hQ : ∀ (r : Int32) (I' : jI) (L' : jL), WD Z I' → FR Ws_X8_priceOf Z I Z I' → r.toInt = CST PR fr to ld → Q r I' L') : f_X8_costOfMove v0 v1 v2 v3 Z I L Q := by
  have z0 : (0 : Int32).toInt = 0 := rfl
  have z1 : (1 : Int32).toInt = 1 := rfl
  unfold f_X8_costOfMove
  intro x11 e11
  have t11 : x11.toInt = to - fr - 1 := by
    rw [e11]
    exact i_sub (i_sub e2v e1v (by omega) (by omega)) z1 (by omega) (by omega)
  refine hP 0 v2 v1 x11 v3 I L _ w f1 (by rw [z0]; omega) (by omega) (by omega) (fun r I' L' w' f' er => ?_)
  rw [z0, e2v, e1v, t11, e3v] at er
  intro x19 e19
  have p0 := hb 0 to fr (to - fr - 1) ld
  have rg := CST_rng hb (ld := ld) h3
  exact ⟨(to - fr - 1).toNat + 1, c_cost_L24 w0 w v0 PR hP hb f1 v1 v2 v3 x11 fr to ld (to - fr - 1) e1v e2v e3v t11 hf ht htn _ (by omega) hQ (to - fr - 1).toNat _ r x19 _ (fr + 1) I' L' (Nat.le_refl _) er (by rw [e19]; exact i_add e1v z1 (by omega) (by omega)) (by omega) (by omega) (by omega) rfl w' f'⟩
theorem r_X8_has {Z : jZ} {I : jI} {L : jL} (v0 : Nat) (v1 : Int32) (s n : Int) (e1v : v1.toInt = s) (hn : (I v0 9).toInt = n) (h0 : 0 ≤ s) (h1 : s < n) {Q : Int32 → jI → jL → Prop} (w : WD Z I) (kv0 : jk Z v0 8) (hQ : ∀ r : Int32, ¬ r = 0 → Q r I L) : f_X8_has v0 v1 Z I L Q := by
  refine s_X8_has w v0 v1 kv0 (fun r hr => hQ r (fun q => ?_))
  rw [q] at hr
  rcases hr with h | h
  · have := h.1
    have z0 : (0 : Int32).toInt = 0 := rfl
    omega
  · exact h.2 (by omega)
theorem c_effort_L8 {Z : jZ} {I : jI} {L : jL} (w : WD Z I) (v0 u0 u1 : Nat) (kv0 : jk Z v0 8) (h0 : jr Z v0 0 = some u0) (h1 : jr Z v0 1 = some u1) (n : Int) (hn : (I v0 9).toInt = n) (H G : Int → Int) (hH : ∀ s : Nat, (s : Int) < n → (I u0 s).toInt = H s) (hG : ∀ s : Nat, (s : Int) < n → (I u1 s).toInt = G s) (bH : ∀ s, 0 ≤ H s ∧ H s ≤ 30) (bG : ∀ s, 0 ≤ G s ∧ G s ≤ 9) (v1 v2 v3 : Int32) (fr to ld : Int) (e1v : v1.toInt = fr) (e2v : v2.toInt = to) (e3v : v3.toInt = ld) (hf : -1 ≤ fr) (hft : fr < to) (htn : to < n) (ht : to ≤ 23) (h3 : to - fr ≤ 3) (hl : 0 ≤ ld ∧ ld ≤ 50) {Q : Int32 → jI → jL → Prop}
    (hQ : ∀ (r : Int32), r.toInt = EFT H G fr to ld → Q r I L) :
    ∀ (k m : Nat) (v4 v5 : Int32) (a s : Int), k + 1 ≤ m → v4.toInt = a → v5.toInt = s → 0 ≤ a → fr < s → s + (k : Int) = to + 1 → a + HSm H k s = HSm H (to - fr).toNat (fr + 1) → f_X8_effortOfMove_L8 Z Q m v0 v1 v2 v3 v4 v5 I L := by
  have z0 : (0 : Int32).toInt = 0 := rfl
  have z1 : (1 : Int32).toInt = 1 := rfl
  have z5 : (5 : Int32).toInt = 5 := rfl
  have z9 : (9 : Int32).toInt = 9 := rfl
  have z10 : (10 : Int32).toInt = 10 := rfl
  have tot := HSm_rng bH (to - fr).toNat (fr + 1)
  have rg := EFT_rng bH bG h3 hft hl
  obtain ⟨x, ex, k0, l0⟩ := sh_f w.1 kv0 (j := 0) (k := 14) (m := 24) rfl
  cases h0.symm.trans ex
  obtain ⟨x, ex, k1, l1⟩ := sh_f w.1 kv0 (j := 1) (k := 14) (m := 24) rfl
  cases h1.symm.trans ex
  intro k
  induction k with
  | zero =>
    intro m v4 v5 a s hm e4v e5v ha hs hk hx
    obtain ⟨m', rfl⟩ : ∃ m', m = m' + 1 := ⟨m - 1, by omega⟩
    have hx : a + 0 = HSm H (to - fr).toNat (fr + 1) := hx
    unfold f_X8_effortOfMove_L8
    refine ⟨fun _ => ?_, fun c => absurd ((i_lt e2v e5v).mpr (by omega)) c⟩
    refine r_X8_has v0 v2 to n e2v hn (by omega) htn w kv0 (fun r hr => ⟨fun c => absurd c hr, fun _ => ?_⟩)
    intro b h; cases h1.symm.trans h
    have n2 := i_nat e2v (by omega)
    have g := hG v2.toNatClampNeg (by omega)
    rw [n2] at g
    refine ⟨vi_of e2v (by omega) (by omega), ?_⟩
    unfold f_X8_effortOfMove_b66
    refine hQ _ ?_
    have mm := EFT_mul (S := a) (by omega) hl
    have gg := bG to
    have t1 := i_mul e4v (i_add z10 e3v (by omega) (by omega)) (by omega) (by omega)
    have t2 := i_div t1 z10 (by omega) (by omega)
    have t3 := i_add t2 (i_sub z9 g (by omega) (by omega)) (by omega) (by omega)
    have t4 := i_mul z5 (i_sub (i_sub e2v e1v (by omega) (by omega)) z1 (by omega) (by omega)) (by omega) (by omega)
    rw [i_add t3 t4 (by omega) (by omega)]
    unfold EFT
    rw [← hx, Int.add_zero]
  | succ k ih =>
    intro m v4 v5 a s hm e4v e5v ha hs hk hx
    obtain ⟨m', rfl⟩ : ∃ m', m = m' + 1 := ⟨m - 1, by omega⟩
    have hx : a + (H s + HSm H k (s + 1)) = HSm H (to - fr).toNat (fr + 1) := hx
    have bh := bH s
    have br := HSm_rng bH k (s + 1)
    unfold f_X8_effortOfMove_L8
    refine ⟨fun c => absurd ((i_lt e2v e5v).mp c) (by omega), fun _ => ?_⟩
    refine r_X8_has v0 v5 s n e5v hn (by omega) (by omega) w kv0 (fun r hr => ⟨fun c => absurd c hr, fun _ => ?_⟩)
    intro b h; cases h0.symm.trans h
    have n5 := i_nat e5v (by omega)
    have g := hH v5.toNatClampNeg (by omega)
    rw [n5] at g
    refine ⟨vi_of e5v (by omega) (by omega), ?_⟩
    unfold f_X8_effortOfMove_b36
    intro x1 ex1 x2 ex2
    exact ih m' x1 x2 (a + H s) (s + 1) (by omega) (by rw [ex1]; exact i_add e4v g (by omega) (by omega)) (by rw [ex2]; exact i_add e5v z1 (by omega) (by omega)) (by omega) (by omega) (by omega) (by omega)
theorem r_X8_effortOfMove_f {Z : jZ} {I : jI} {L : jL} (w : WD Z I) (v0 u0 u1 : Nat) (kv0 : jk Z v0 8) (h0 : jr Z v0 0 = some u0) (h1 : jr Z v0 1 = some u1) (n : Int) (hn : (I v0 9).toInt = n) (H G : Int → Int) (hH : ∀ s : Nat, (s : Int) < n → (I u0 s).toInt = H s) (hG : ∀ s : Nat, (s : Int) < n → (I u1 s).toInt = G s) (bH : ∀ s, 0 ≤ H s ∧ H s ≤ 30) (bG : ∀ s, 0 ≤ G s ∧ G s ≤ 9) (v1 v2 v3 : Int32) (fr to ld : Int) (e1v : v1.toInt = fr) (e2v : v2.toInt = to) (e3v : v3.toInt = ld) (hf : -1 ≤ fr) (hft : fr < to) (htn : to < n) (ht : to ≤ 23) (h3 : to - fr ≤ 3) (hl : 0 ≤ ld ∧ ld ≤ 50) {Q : Int32 → jI → jL → Prop}
    (hQ : ∀ (r : Int32), r.toInt = EFT H G fr to ld → Q r I L) : f_X8_effortOfMove v0 v1 v2 v3 Z I L Q := by
  unfold f_X8_effortOfMove
  intro x24 e24
  exact ⟨(to - fr).toNat + 1, c_effort_L8 w v0 u0 u1 kv0 h0 h1 n hn H G hH hG bH bG v1 v2 v3 fr to ld e1v e2v e3v hf hft htn ht h3 hl hQ (to - fr).toNat _ 0 x24 0 (fr + 1) (Nat.le_refl _) rfl (by rw [e24]; exact i_add e1v (show (1 : Int32).toInt = 1 from rfl) (by omega) (by omega)) (Int.le_refl _) (by omega) (by omega) (Int.zero_add _)⟩
/-! ===== Routes: laying the moves ===== -/
theorem FR_putA {W : List (Nat × Nat)} {Z : jZ} {I : jI} {a c j b k i : Nat} {v : Int32} (uq : UQ Z) (ha : jk Z a c) (e : jr Z a j = some b) (hb : jk Z b k) (hk : jia k = true) (hs : jsr c j = false) (hw : (c, j) ∈ W) : FR W Z I Z (jpI I b i v) := FR_upA uq ha e hb hk hs hw
/-- the arrays of a pilgrim's moves, all apart -/
theorem rou_at {Z : jZ} {I : jI} {a : Nat} (w : WD Z I) (ka : jk Z a 6) : ∃ u4 u5 u6 u7, jr Z a 4 = some u4 ∧ jr Z a 5 = some u5 ∧ jr Z a 6 = some u6 ∧ jr Z a 7 = some u7 ∧ jk Z u4 14 ∧ jk Z u5 14 ∧ jk Z u6 16 ∧ jk Z u7 14 ∧ jlen Z u4 = 75 ∧ jlen Z u5 = 75 ∧ jlen Z u6 = 25 ∧ jlen Z u7 = 25 ∧ a ≠ u4 ∧ a ≠ u5 ∧ a ≠ u6 ∧ a ≠ u7 ∧ u4 ≠ u5 ∧ u4 ≠ u6 ∧ u4 ≠ u7 ∧ u5 ≠ u6 ∧ u5 ≠ u7 ∧ u6 ≠ u7 := by
  obtain ⟨u4, e4, k4, l4⟩ := sh_f w.1 ka (j := 4) (k := 14) (m := 75) rfl
  obtain ⟨u5, e5, k5, l5⟩ := sh_f w.1 ka (j := 5) (k := 14) (m := 75) rfl
  obtain ⟨u6, e6, k6, l6⟩ := sh_f w.1 ka (j := 6) (k := 16) (m := 25) rfl
  obtain ⟨u7, e7, k7, l7⟩ := sh_f w.1 ka (j := 7) (k := 14) (m := 25) rfl
  have un : ∀ i j b b', jr Z a i = some b → jr Z a j = some b' → i ≠ j → i ≠ 0 → j ≠ 0 → b ≠ b' := fun i j b b' h1 h2 hn hi hj q => by
    subst q
    exact hn (w.2.1.2.2 a 6 i a 6 j b ka ka h1 h2 (by simp [jsr, hi]) (by simp [jsr, hj])).2
  exact ⟨u4, u5, u6, u7, e4, e5, e6, e7, k4, k5, k6, k7, l4, l5, l6, l7, ks_ne ka k4 (by decide), ks_ne ka k5 (by decide), ks_ne ka k6 (by decide), ks_ne ka k7 (by decide), un 4 5 _ _ e4 e5 (by decide) (by decide) (by decide), un 4 6 _ _ e4 e6 (by decide) (by decide) (by decide), un 4 7 _ _ e4 e7 (by decide) (by decide) (by decide), un 5 6 _ _ e5 e6 (by decide) (by decide) (by decide), un 5 7 _ _ e5 e7 (by decide) (by decide) (by decide), un 6 7 _ _ e6 e7 (by decide) (by decide) (by decide)⟩
/-- what the world of a pilgrim's moves says: the stairs it stands on -/
def SQ (Z : jZ) (I0 : jI) (v0 v8 u0 u1 lp n : Nat) (ld : Int) (PR : Int → Int → Int → Int → Int → Int) (H G : Int → Int) : Prop := (WD Z I0) ∧ (jk Z v0 6) ∧ (jk Z v8 8) ∧ (jr Z v0 0 = some v8) ∧ (jr Z v8 0 = some u0) ∧ (jr Z v8 1 = some u1) ∧ (PRC Z I0 v8 (n : Int) PR) ∧ (∀ a b c d e, 0 ≤ PR a b c d e ∧ PR a b c d e ≤ 99) ∧ (∀ s, 0 ≤ H s ∧ H s ≤ 30) ∧ (∀ s, 0 ≤ G s ∧ G s ≤ 9) ∧ (∀ s : Nat, (s : Int) < (n : Int) → (I0 u0 s).toInt = H s) ∧ (∀ s : Nat, (s : Int) < (n : Int) → (I0 u1 s).toInt = G s) ∧ ((I0 v8 9).toInt = (n : Int)) ∧ ((I0 v0 3).toInt = (lp : Int)) ∧ (lp ≤ 3) ∧ (n ≤ 24) ∧ (0 ≤ ld ∧ ld ≤ 50)
theorem SQ.w0 {Z : jZ} {I0 : jI} {v0 v8 u0 u1 lp n : Nat} {ld : Int} {PR : Int → Int → Int → Int → Int → Int} {H G : Int → Int} (h : SQ Z I0 v0 v8 u0 u1 lp n ld PR H G) : WD Z I0 := h.1
theorem SQ.kv {Z : jZ} {I0 : jI} {v0 v8 u0 u1 lp n : Nat} {ld : Int} {PR : Int → Int → Int → Int → Int → Int} {H G : Int → Int} (h : SQ Z I0 v0 v8 u0 u1 lp n ld PR H G) : jk Z v0 6 := h.2.1
theorem SQ.k8 {Z : jZ} {I0 : jI} {v0 v8 u0 u1 lp n : Nat} {ld : Int} {PR : Int → Int → Int → Int → Int → Int} {H G : Int → Int} (h : SQ Z I0 v0 v8 u0 u1 lp n ld PR H G) : jk Z v8 8 := h.2.2.1
theorem SQ.h8 {Z : jZ} {I0 : jI} {v0 v8 u0 u1 lp n : Nat} {ld : Int} {PR : Int → Int → Int → Int → Int → Int} {H G : Int → Int} (h : SQ Z I0 v0 v8 u0 u1 lp n ld PR H G) : jr Z v0 0 = some v8 := h.2.2.2.1
theorem SQ.h0 {Z : jZ} {I0 : jI} {v0 v8 u0 u1 lp n : Nat} {ld : Int} {PR : Int → Int → Int → Int → Int → Int} {H G : Int → Int} (h : SQ Z I0 v0 v8 u0 u1 lp n ld PR H G) : jr Z v8 0 = some u0 := h.2.2.2.2.1
theorem SQ.h1 {Z : jZ} {I0 : jI} {v0 v8 u0 u1 lp n : Nat} {ld : Int} {PR : Int → Int → Int → Int → Int → Int} {H G : Int → Int} (h : SQ Z I0 v0 v8 u0 u1 lp n ld PR H G) : jr Z v8 1 = some u1 := h.2.2.2.2.2.1
theorem SQ.hP {Z : jZ} {I0 : jI} {v0 v8 u0 u1 lp n : Nat} {ld : Int} {PR : Int → Int → Int → Int → Int → Int} {H G : Int → Int} (h : SQ Z I0 v0 v8 u0 u1 lp n ld PR H G) : PRC Z I0 v8 (n : Int) PR := h.2.2.2.2.2.2.1
theorem SQ.bP {Z : jZ} {I0 : jI} {v0 v8 u0 u1 lp n : Nat} {ld : Int} {PR : Int → Int → Int → Int → Int → Int} {H G : Int → Int} (h : SQ Z I0 v0 v8 u0 u1 lp n ld PR H G) : ∀ a b c d e, 0 ≤ PR a b c d e ∧ PR a b c d e ≤ 99 := h.2.2.2.2.2.2.2.1
theorem SQ.bH {Z : jZ} {I0 : jI} {v0 v8 u0 u1 lp n : Nat} {ld : Int} {PR : Int → Int → Int → Int → Int → Int} {H G : Int → Int} (h : SQ Z I0 v0 v8 u0 u1 lp n ld PR H G) : ∀ s, 0 ≤ H s ∧ H s ≤ 30 := h.2.2.2.2.2.2.2.2.1
theorem SQ.bG {Z : jZ} {I0 : jI} {v0 v8 u0 u1 lp n : Nat} {ld : Int} {PR : Int → Int → Int → Int → Int → Int} {H G : Int → Int} (h : SQ Z I0 v0 v8 u0 u1 lp n ld PR H G) : ∀ s, 0 ≤ G s ∧ G s ≤ 9 := h.2.2.2.2.2.2.2.2.2.1
theorem SQ.hH {Z : jZ} {I0 : jI} {v0 v8 u0 u1 lp n : Nat} {ld : Int} {PR : Int → Int → Int → Int → Int → Int} {H G : Int → Int} (h : SQ Z I0 v0 v8 u0 u1 lp n ld PR H G) : ∀ s : Nat, (s : Int) < (n : Int) → (I0 u0 s).toInt = H s := h.2.2.2.2.2.2.2.2.2.2.1
theorem SQ.hG {Z : jZ} {I0 : jI} {v0 v8 u0 u1 lp n : Nat} {ld : Int} {PR : Int → Int → Int → Int → Int → Int} {H G : Int → Int} (h : SQ Z I0 v0 v8 u0 u1 lp n ld PR H G) : ∀ s : Nat, (s : Int) < (n : Int) → (I0 u1 s).toInt = G s := h.2.2.2.2.2.2.2.2.2.2.2.1
theorem SQ.h9 {Z : jZ} {I0 : jI} {v0 v8 u0 u1 lp n : Nat} {ld : Int} {PR : Int → Int → Int → Int → Int → Int} {H G : Int → Int} (h : SQ Z I0 v0 v8 u0 u1 lp n ld PR H G) : (I0 v8 9).toInt = (n : Int) := h.2.2.2.2.2.2.2.2.2.2.2.2.1
theorem SQ.h3 {Z : jZ} {I0 : jI} {v0 v8 u0 u1 lp n : Nat} {ld : Int} {PR : Int → Int → Int → Int → Int → Int} {H G : Int → Int} (h : SQ Z I0 v0 v8 u0 u1 lp n ld PR H G) : (I0 v0 3).toInt = (lp : Int) := h.2.2.2.2.2.2.2.2.2.2.2.2.2.1
theorem SQ.lp3 {Z : jZ} {I0 : jI} {v0 v8 u0 u1 lp n : Nat} {ld : Int} {PR : Int → Int → Int → Int → Int → Int} {H G : Int → Int} (h : SQ Z I0 v0 v8 u0 u1 lp n ld PR H G) : lp ≤ 3 := h.2.2.2.2.2.2.2.2.2.2.2.2.2.2.1
theorem SQ.n24 {Z : jZ} {I0 : jI} {v0 v8 u0 u1 lp n : Nat} {ld : Int} {PR : Int → Int → Int → Int → Int → Int} {H G : Int → Int} (h : SQ Z I0 v0 v8 u0 u1 lp n ld PR H G) : n ≤ 24 := h.2.2.2.2.2.2.2.2.2.2.2.2.2.2.2.1
theorem SQ.l50 {Z : jZ} {I0 : jI} {v0 v8 u0 u1 lp n : Nat} {ld : Int} {PR : Int → Int → Int → Int → Int → Int} {H G : Int → Int} (h : SQ Z I0 v0 v8 u0 u1 lp n ld PR H G) : 0 ≤ ld ∧ ld ≤ 50 := h.2.2.2.2.2.2.2.2.2.2.2.2.2.2.2.2
def CCp (PR : Int → Int → Int → Int → Int → Int) (ld : Int) (p far : Nat) : Int := if 1 ≤ far ∧ far ≤ 3 then CST PR ((p : Int) - (far : Int) - 1) ((p : Int) - 1) ld else 0
def EEp (H G : Int → Int) (ld : Int) (p far : Nat) : Int := if 1 ≤ far ∧ far ≤ 3 then EFT H G ((p : Int) - (far : Int) - 1) ((p : Int) - 1) ld else 0
theorem CCp_rng {PR : Int → Int → Int → Int → Int → Int} (hP : ∀ a b c d e, 0 ≤ PR a b c d e ∧ PR a b c d e ≤ 99) {ld : Int} : ∀ p far, 0 ≤ CCp PR ld p far ∧ CCp PR ld p far ≤ 297 := by
  intro p far
  unfold CCp
  by_cases h : 1 ≤ far ∧ far ≤ 3
  · rw [if_pos h]
    exact CST_rng hP (by omega)
  · rw [if_neg h]
    omega
theorem EEp_rng {H G : Int → Int} (hH : ∀ s, 0 ≤ H s ∧ H s ≤ 30) (hG : ∀ s, 0 ≤ G s ∧ G s ≤ 9) {ld : Int} (hl : 0 ≤ ld ∧ ld ≤ 50) : ∀ p far, 0 ≤ EEp H G ld p far ∧ EEp H G ld p far ≤ 600 := by
  intro p far
  unfold EEp
  by_cases h : 1 ≤ far ∧ far ≤ 3
  · rw [if_pos h]
    exact EFT_rng hH hG (by omega) (by omega) hl
  · rw [if_neg h]
    omega
/-- moves measured: those to places below p, and those to p of less than far -/
def MSD (I : jI) (u4 u5 lp n : Nat) (op : Nat → Prop) (C E : Nat → Nat → Int) (p far : Nat) : Prop := ∀ p' f : Nat, p' ≤ n → alw lp op p' f → (p' < p ∨ (p' = p ∧ f < far)) → (I u4 (3 * p' + f - 1)).toInt = C p' f ∧ (I u5 (3 * p' + f - 1)).toInt = E p' f
set_option maxHeartbeats 4000000 in
theorem c_meas_L22 {Z : jZ} {I0 I2 : jI} {v0 v8 u0 u1 lp n : Nat} {ld : Int} {PR : Int → Int → Int → Int → Int → Int} {H G : Int → Int} (S : SQ Z I0 v0 v8 u0 u1 lp n ld PR H G) (u4 u5 u6 : Nat) (g4 : jr Z v0 4 = some u4) (g5 : jr Z v0 5 = some u5) (g6 : jr Z v0 6 = some u6) (op : Nat → Prop) (p : Nat) (hp1 : 1 ≤ p) (hpn : p ≤ n) (v2 v3 : Int32) (e3v : v3.toInt = (p : Int)) {K6 : Nat → Int32 → Int32 → jI → jL → Prop} {Q : jI → jL → Prop}
    (hk : ∀ (x : Int32) (I' : jI) (L' : jL), x.toInt = ((p + 1 : Nat) : Int) → WD Z I' → FR Wl Z I0 Z I' → I' u6 = I2 u6 → I' v0 = I2 v0 → MSD I' u4 u5 lp n op (CCp PR ld) (EEp H G ld) (p + 1) 1 → K6 v0 v2 x I' L') :
    ∀ (k far : Nat) (v4 : Int32) (I : jI) (L : jL), 1 ≤ far → far ≤ 4 → 5 ≤ k + far → v4.toInt = (far : Int) → WD Z I → FR Wl Z I0 Z I → I u6 = I2 u6 → I v0 = I2 v0 → (I v0 14).toInt = ld → (I u6 p ≠ 0 ↔ op p) → MSD I u4 u5 lp n op (CCp PR ld) (EEp H G ld) p far → f_X6_measure_L22 K6 Z Q k v0 v2 v3 v4 I L := by
  have z0 : (0 : Int32).toInt = 0 := rfl
  have z1 : (1 : Int32).toInt = 1 := rfl
  have z3 : (3 : Int32).toInt = 3 := rfl
  have n24 := S.n24
  have lp3 := S.lp3
  obtain ⟨c4, c5, c6, c7, x4, x5, x6, x7, k4, k5, k6, k7, l4, l5, l6, l7, n4, n5, n6, n7, n45, n46, n47, n56, n57, n67⟩ := rou_at S.w0 S.kv
  cases g4.symm.trans x4; cases g5.symm.trans x5; cases g6.symm.trans x6
  have qn : v3.toNatClampNeg = p := by have := i_nat e3v (by omega); omega
  intro k
  induction k with
  | zero => intro far v4 I L h1 h4 hk5; omega
  | succ k ih =>
    intro far v4 I L h1 h4 hk5 e4v w f i6 i0 i14 iop hm
    have m3 : (I v0 3).toInt = (lp : Int) := by rw [f.2.2.1 v0 6 3 S.kv (by decide) (by decide)]; exact S.h3
    have fin : (∀ f', alw lp op p f' → f' < far) → f_X6_measure_b114 K6 Z Q v0 v2 v3 I L := fun hd => by
      unfold f_X6_measure_b114
      intro x ex
      refine hk x I L (by rw [ex]; exact (i_add e3v z1 (by omega) (by omega)).trans (by omega)) w f i6 i0 (fun p' f' h1 ha h2 => hm p' f' h1 ha ?_)
      rcases h2 with h2 | h2
      · by_cases c : p' = p
        · subst c
          exact Or.inr ⟨rfl, hd f' ha⟩
        · exact Or.inl (by omega)
      · have := ha.1
        omega
    unfold f_X6_measure_L22
    refine ⟨fun c => fin (fun f' ha => ?_), fun c => ⟨fun c2 => fin (fun f' ha => ?_), fun c2 => ?_⟩⟩
    · have c := (i_lt m3 e4v).mp c
      have := ha.2.1
      omega
    · have c2 := (i_lt e3v e4v).mp c2
      have := ha.2.2.1
      omega
    have c := (not_congr (i_lt m3 e4v)).mp c
    have c2 := (not_congr (i_lt e3v e4v)).mp c2
    intro b h; cases g6.symm.trans h
    rw [qn]
    refine ⟨vi_of e3v (by omega) (by omega), fun c3 => fin (fun f' ha => absurd c3 (iop.mpr ha.2.2.2)), fun c3 => ?_⟩
    unfold f_X6_moveTo
    intro b h; cases g4.symm.trans h
    intro b h; cases S.h8.symm.trans h
    have t13 : (((v3 * (3 : Int32)) + v4) - (1 : Int32)).toInt = 3 * (p : Int) + (far : Int) - 1 := (i_sub (i_add (i_mul e3v z3 (by omega) (by omega)) e4v (by omega) (by omega)) z1 (by omega) (by omega)).trans (by omega)
    have n13 : (((v3 * (3 : Int32)) + v4) - (1 : Int32)).toNatClampNeg = 3 * p + far - 1 := by have := i_nat t13 (by omega); omega
    have vi : vp_in (((v3 * (3 : Int32)) + v4) - (1 : Int32)) 75 := vi_of t13 (by omega) (by omega)
    have tfr : ((v3 - v4) - (1 : Int32)).toInt = (p : Int) - (far : Int) - 1 := i_sub (i_sub e3v e4v (by omega) (by omega)) z1 (by omega) (by omega)
    have tto : (v3 - (1 : Int32)).toInt = (p : Int) - 1 := i_sub e3v z1 (by omega) (by omega)
    have f3 : 1 ≤ far ∧ far ≤ 3 := ⟨h1, by omega⟩
    rw [n13]
    refine r_X8_costOfMove_f S.w0 w v8 PR S.hP S.bP f _ _ _ _ _ ld tfr tto i14 (by omega) (by omega) (by omega) (by omega) (by omega) (fun r I' L' w' f' er => ?_)
    have er : r.toInt = CCp PR ld p far := by
      rw [er]
      unfold CCp
      rw [if_pos f3]
    have rr := CCp_rng S.bP (ld := ld) p far
    refine ⟨vi, fun I24 e24 => ?_⟩
    have w24 : WD Z I24 := by
      rw [e24]
      exact WD_putA w' 6 4 S.kv g4 k4 rfl rfl (by decide) (show rg 0 297 r from ⟨by omega, by omega⟩)
    have f24 : FR Wl Z I' Z I24 := by
      rw [e24]
      exact FR_putA w'.2.1 S.kv g4 k4 rfl rfl (by decide)
    have fa : FR Wl Z I0 Z I24 := FR.trans S.w0.1 S.w0.2.1 f (FR.trans w.1 w.2.1 (f'.mono Ws8_l) f24)
    have p6 : I24 u6 = I u6 := by rw [e24, jpI_ne n46.symm]; exact f'.2.2.2 v0 6 6 u6 S.kv g6 (by rw [k6.2]; rfl) rfl (by decide)
    have p5 : I24 u5 = I u5 := by rw [e24, jpI_ne n45.symm]; exact f'.2.2.2 v0 6 5 u5 S.kv g5 (by rw [k5.2]; rfl) rfl (by decide)
    have p4 : I' u4 = I u4 := f'.2.2.2 v0 6 4 u4 S.kv g4 (by rw [k4.2]; rfl) rfl (by decide)
    have p0 : I24 v0 = I v0 := by
      rw [e24, jpI_ne n4]
      funext j
      exact f'.2.2.1 v0 6 j S.kv (by decide) (by simp [Ws_X8_priceOf])
    intro b h; cases g5.symm.trans h
    intro b h; cases S.h8.symm.trans h
    have g9 : (I24 v8 9).toInt = (n : Int) := by rw [fa.2.2.1 v8 8 9 S.k8 (by decide) (by decide)]; exact S.h9
    have s0 : I24 u0 = I0 u0 := by
      obtain ⟨x, ex, kx, -⟩ := sh_f S.w0.1 S.k8 (j := 0) (k := 14) (m := 24) rfl
      cases S.h0.symm.trans ex
      exact fa.2.2.2 v8 8 0 u0 S.k8 S.h0 (by rw [kx.2]; rfl) rfl (by decide)
    have s1 : I24 u1 = I0 u1 := by
      obtain ⟨x, ex, kx, -⟩ := sh_f S.w0.1 S.k8 (j := 1) (k := 14) (m := 24) rfl
      cases S.h1.symm.trans ex
      exact fa.2.2.2 v8 8 1 u1 S.k8 S.h1 (by rw [kx.2]; rfl) rfl (by decide)
    refine r_X8_effortOfMove_f w24 v8 u0 u1 S.k8 S.h0 S.h1 (n : Int) g9 H G (by rw [s0]; exact S.hH) (by rw [s1]; exact S.hG) S.bH S.bG _ _ _ _ _ ld tfr tto (by rw [p0]; exact i14) (by omega) (by omega) (by omega) (by omega) (by omega) S.l50 (fun r33 er33 => ?_)
    have er33 : r33.toInt = EEp H G ld p far := by
      rw [er33]
      unfold EEp
      rw [if_pos f3]
    refine ⟨vi, fun I35 e35 x36 e36 => ?_⟩
    have w35 : WD Z I35 := by
      rw [e35]
      exact WD_putA w24 6 5 S.kv g5 k5 rfl rfl (by decide) trivial
    have f35 : FR Wl Z I24 Z I35 := by
      rw [e35]
      exact FR_putA w24.2.1 S.kv g5 k5 rfl rfl (by decide)
    have q6 : I35 u6 = I u6 := by rw [e35, jpI_ne n56.symm]; exact p6
    have q0 : I35 v0 = I v0 := by rw [e35, jpI_ne n5]; exact p0
    refine ih (far + 1) x36 I35 _ (by omega) (by omega) (by omega) (by rw [e36]; exact (i_add e4v z1 (by omega) (by omega)).trans (by omega)) w35 (FR.trans S.w0.1 S.w0.2.1 fa f35) (q6.trans i6) (q0.trans i0) (by rw [q0]; exact i14) (by rw [q6]; exact iop) (fun p' f' h1' ha h2 => ?_)
    have hfa := ha.1
    have hfb := ha.2.1
    by_cases c9 : p' = p ∧ f' = far
    · rw [c9.1, c9.2]
      refine ⟨?_, ?_⟩
      · rw [e35, jpI_ne n45, e24, jpI_at]
        exact er
      · rw [e35, jpI_at]
        exact er33
    · have old := hm p' f' h1' ha (by omega)
      refine ⟨?_, ?_⟩
      · rw [e35, jpI_ne n45, e24, jpI_off (by omega), p4]
        exact old.1
      · rw [e35, jpI_off (by omega), p5]
        exact old.2
theorem c_meas_L6 {Z : jZ} {I0 I2 : jI} {v0 v8 u0 u1 lp n : Nat} {ld : Int} {PR : Int → Int → Int → Int → Int → Int} {H G : Int → Int} (S : SQ Z I0 v0 v8 u0 u1 lp n ld PR H G) (u4 u5 u6 : Nat) (g4 : jr Z v0 4 = some u4) (g5 : jr Z v0 5 = some u5) (g6 : jr Z v0 6 = some u6) (op : Nat → Prop) (i14 : (I2 v0 14).toInt = ld) (i15 : (I2 v0 15).toInt = (n : Int)) (iop : ∀ p, p ≤ n → (I2 u6 p ≠ 0 ↔ op p)) (v2 : Int32) (e2v : v2.toInt = (n : Int)) {Q : jI → jL → Prop}
    (hQ : ∀ (I' : jI) (L' : jL), WD Z I' → FR Wl Z I0 Z I' → I' u6 = I2 u6 → I' v0 = I2 v0 → MSD I' u4 u5 lp n op (CCp PR ld) (EEp H G ld) (n + 1) 1 → Q I' L') :
    ∀ (k p : Nat) (v3 : Int32) (I : jI) (L : jL), 1 ≤ p → p ≤ n + 1 → n + 2 ≤ k + p → v3.toInt = (p : Int) → WD Z I → FR Wl Z I0 Z I → I u6 = I2 u6 → I v0 = I2 v0 → MSD I u4 u5 lp n op (CCp PR ld) (EEp H G ld) p 1 → f_X6_measure_L6 Z Q k v0 v2 v3 I L := by
  intro k
  induction k with
  | zero => intro p v3 I L h1 h2 h3; omega
  | succ k ih =>
    intro p v3 I L h1 h2 h3 e3v w f i6 i0 hm
    unfold f_X6_measure_L6
    have j15 : (I v0 15).toInt = (n : Int) := by rw [i0]; exact i15
    refine ⟨fun c => ?_, fun c => ⟨fun c2 => ?_, fun _ => ?_⟩⟩
    · have c := (i_lt e2v e3v).mp c
      have e : p = n + 1 := by omega
      rw [e] at hm
      exact hQ I L w f i6 i0 hm
    · have c2 := (i_lt j15 e3v).mp c2
      have c := (not_congr (i_lt e2v e3v)).mp c
      omega
    have c := (not_congr (i_lt e2v e3v)).mp c
    exact ⟨5, c_meas_L22 S u4 u5 u6 g4 g5 g6 op p h1 (by omega) v2 v3 e3v (fun x I' L' ex w' f' a6 a0 hm' => ih (p + 1) x I' L' (by omega) (by omega) (by omega) ex w' f' a6 a0 hm') 5 1 1 I L (Nat.le_refl _) (by omega) (by omega) rfl w f i6 i0 (by rw [i0]; exact i14) (by rw [i6]; exact iop p (by omega)) hm⟩
/-- least efforts up, found down to place p -/
def LUT (I : jI) (u7 lp n : Nat) (op : Nat → Prop) (E : Nat → Nat → Int) (p : Nat) : Prop := ∀ q, p ≤ q → q ≤ n → (0 ≤ (I u7 q).toInt ∧ (I u7 q).toInt ≤ 1048576) ∧ (q = n → op n → (I u7 q).toInt = 0) ∧ ∀ far, 1 ≤ far → far ≤ lp → q + far ≤ n → op q → op (q + far) → (I u7 q).toInt ≤ E (q + far) far + (I u7 (q + far)).toInt
set_option maxHeartbeats 2000000 in
theorem c_leu_L26 {Z : jZ} {I : jI} {L : jL} (v0 u5 u6 u7 lp n : Nat) (g5 : jr Z v0 5 = some u5) (g6 : jr Z v0 6 = some u6) (g7 : jr Z v0 7 = some u7) (op : Nat → Prop) (E : Nat → Nat → Int) (hE : ∀ p f, 0 ≤ E p f ∧ E p f ≤ 600) (m3 : (I v0 3).toInt = (lp : Int)) (m15 : (I v0 15).toInt = (n : Int)) (hlp : lp ≤ 3) (hn : n ≤ 24) (iop : ∀ p, p ≤ n → (I u6 p ≠ 0 ↔ op p)) (hm : ∀ p far, alw lp op p far → p ≤ n → (I u5 (3 * p + far - 1)).toInt = E p far) (q : Nat) (hq : q ≤ n) (v1 : Int32) (e1v : v1.toInt = (q : Int)) (hT : LUT I u7 lp n op E (q + 1)) {Q : Int32 → jI → jL → Prop}
    (hQ : ∀ r : Int32, (0 ≤ r.toInt ∧ r.toInt ≤ 1048576) → (q = n → op n → r.toInt = 0) → (∀ far, 1 ≤ far → far ≤ lp → q + far ≤ n → op q → op (q + far) → r.toInt ≤ E (q + far) far + (I u7 (q + far)).toInt) → Q r I L) :
    ∀ (k far : Nat) (v2 v3 : Int32), 1 ≤ far → far ≤ 4 → 5 ≤ k + far → v3.toInt = (far : Int) → (0 ≤ v2.toInt ∧ v2.toInt ≤ 1048576) → (q = n → op n → v2.toInt = 0) → (∀ f, f < far → 1 ≤ f → f ≤ lp → q + f ≤ n → op q → op (q + f) → v2.toInt ≤ E (q + f) f + (I u7 (q + f)).toInt) → f_X6_leastEffortUp_L26 Z Q k v0 v1 v2 v3 I L := by
  have z1 : (1 : Int32).toInt = 1 := rfl
  have z3 : (3 : Int32).toInt = 3 := rfl
  intro k
  induction k with
  | zero => intro far v2 v3 h1 h4 hk5; omega
  | succ k ih =>
    intro far v2 v3 h1 h4 hk5 e3v r2 h0 hl
    have t13 := i_add e1v e3v (by omega) (by omega)
    have n1 : v1.toNatClampNeg = q := by have := i_nat e1v (by omega); omega
    have n13 : (v1 + v3).toNatClampNeg = q + far := by have := i_nat t13 (by omega); omega
    have nx : ∀ x : Int32, x = v3 + 1 → x.toInt = ((far + 1 : Nat) : Int) := fun x ex => by
      rw [ex]
      exact (i_add e3v z1 (by omega) (by omega)).trans (by omega)
    have skip : far ≤ 3 → ¬ (op q ∧ op (q + far)) → f_X6_leastEffortUp_b90 (f_X6_leastEffortUp_L26 Z Q k) Z Q v0 v1 v2 v3 I L := fun h3 hs => by
      unfold f_X6_leastEffortUp_b90
      intro x ex
      refine ih (far + 1) v2 x (by omega) (by omega) (by omega) (nx x ex) r2 h0 (fun f hf f1 f2 f3 o1 o2 => ?_)
      by_cases c : f = far
      · rw [c] at o2
        exact absurd ⟨o1, o2⟩ hs
      · exact hl f (by omega) f1 f2 f3 o1 o2
    unfold f_X6_leastEffortUp_L26
    refine ⟨fun c => hQ v2 r2 h0 (fun f f1 f2 f3 o1 o2 => hl f ?_ f1 f2 f3 o1 o2), fun c => ⟨fun c2 => hQ v2 r2 h0 (fun f f1 f2 f3 o1 o2 => hl f ?_ f1 f2 f3 o1 o2), fun c2 => ?_⟩⟩
    · have c := (i_lt m3 e3v).mp c
      omega
    · have c2 := (i_lt m15 t13).mp c2
      omega
    have c := (not_congr (i_lt m3 e3v)).mp c
    have c2 := (not_congr (i_lt m15 t13)).mp c2
    intro b h; cases g6.symm.trans h
    rw [n1]
    refine ⟨vi_of e1v (by omega) (by omega), fun c3 => skip (by omega) (fun o => absurd c3 ((iop q hq).mpr o.1)), fun c3 => ?_⟩
    intro b h; cases g6.symm.trans h
    rw [n13]
    refine ⟨vi_of t13 (by omega) (by omega), fun c4 => skip (by omega) (fun o => absurd c4 ((iop (q + far) (by omega)).mpr o.2)), fun c4 => ?_⟩
    have o1 : op q := (iop q hq).mp c3
    have o2 : op (q + far) := (iop (q + far) (by omega)).mp c4
    intro b h; cases g5.symm.trans h
    unfold f_X6_moveTo
    have t17 : ((((v1 + v3) * (3 : Int32)) + v3) - (1 : Int32)).toInt = 3 * ((q : Int) + (far : Int)) + (far : Int) - 1 := (i_sub (i_add (i_mul t13 z3 (by omega) (by omega)) e3v (by omega) (by omega)) z1 (by omega) (by omega)).trans (by omega)
    have n17 : ((((v1 + v3) * (3 : Int32)) + v3) - (1 : Int32)).toNatClampNeg = 3 * (q + far) + far - 1 := by have := i_nat t17 (by omega); omega
    refine ⟨vi_of t17 (by omega) (by omega), ?_⟩
    intro b h; cases g7.symm.trans h
    refine ⟨vi_of t13 (by omega) (by omega), fun x21 e21 => ?_⟩
    rw [n17] at e21
    have ee := hm (q + far) far ⟨h1, by omega, by omega, o2⟩ (by omega)
    have e9 := hE (q + far) far
    have tt := (hT (q + far) (by omega) (by omega)).1
    have ts : ((I u5 (3 * (q + far) + far - 1)) + (I u7 (q + far))).toInt = E (q + far) far + (I u7 (q + far)).toInt := i_add ee rfl (by omega) (by omega)
    have t21 : x21.toInt = min v2.toInt (E (q + far) far + (I u7 (q + far)).toInt) := by
      rw [e21]
      exact i_min rfl ts
    have hmin1 : x21.toInt ≤ v2.toInt := by rw [t21]; exact Int.min_le_left _ _
    have hmin2 : x21.toInt ≤ E (q + far) far + (I u7 (q + far)).toInt := by rw [t21]; exact Int.min_le_right _ _
    have hmin0 : 0 ≤ x21.toInt := by rw [t21]; exact Int.le_min.mpr ⟨r2.1, by omega⟩
    unfold f_X6_leastEffortUp_b90
    intro x ex
    refine ih (far + 1) x21 x (by omega) (by omega) (by omega) (nx x ex) ⟨hmin0, by omega⟩ (fun hqn _ => by omega) (fun f hf f1 f2 f3 p1 p2 => ?_)
    by_cases c9 : f = far
    · rw [c9]; exact hmin2
    · exact Int.le_trans hmin1 (hl f (by omega) f1 f2 f3 p1 p2)
theorem r_X6_leastEffortUp {Z : jZ} {I : jI} {L : jL} (v0 u5 u6 u7 lp n : Nat) (g5 : jr Z v0 5 = some u5) (g6 : jr Z v0 6 = some u6) (g7 : jr Z v0 7 = some u7) (op : Nat → Prop) (E : Nat → Nat → Int) (hE : ∀ p f, 0 ≤ E p f ∧ E p f ≤ 600) (m3 : (I v0 3).toInt = (lp : Int)) (m15 : (I v0 15).toInt = (n : Int)) (hlp : lp ≤ 3) (hn : n ≤ 24) (iop : ∀ p, p ≤ n → (I u6 p ≠ 0 ↔ op p)) (hm : ∀ p far, alw lp op p far → p ≤ n → (I u5 (3 * p + far - 1)).toInt = E p far) (q : Nat) (hq : q ≤ n) (v1 : Int32) (e1v : v1.toInt = (q : Int)) (hT : LUT I u7 lp n op E (q + 1)) {Q : Int32 → jI → jL → Prop}
    (hQ : ∀ r : Int32, (0 ≤ r.toInt ∧ r.toInt ≤ 1048576) → (q = n → op n → r.toInt = 0) → (∀ far, 1 ≤ far → far ≤ lp → q + far ≤ n → op q → op (q + far) → r.toInt ≤ E (q + far) far + (I u7 (q + far)).toInt) → Q r I L) : f_X6_leastEffortUp v0 v1 Z I L Q := by
  have z0 : (0 : Int32).toInt = 0 := rfl
  have zF : (1048576 : Int32).toInt = 1048576 := rfl
  have n1 : v1.toNatClampNeg = q := by have := i_nat e1v (by omega); omega
  have go : ∀ s0 : Int32, (0 ≤ s0.toInt ∧ s0.toInt ≤ 1048576) → (q = n → op n → s0.toInt = 0) → f_X6_leastEffortUp_b23 Z Q v0 v1 s0 I L := fun s0 h1 h2 => by
    unfold f_X6_leastEffortUp_b23
    exact ⟨5, c_leu_L26 v0 u5 u6 u7 lp n g5 g6 g7 op E hE m3 m15 hlp hn iop hm q hq v1 e1v hT hQ 5 1 s0 1 (Nat.le_refl _) (by omega) (by omega) rfl h1 h2 (fun f hf f1 => by omega)⟩
  have b21 : (q = n → ¬ op n) → f_X6_leastEffortUp_b21 Z Q v0 v1 I L := fun h => by
    unfold f_X6_leastEffortUp_b21
    exact go _ (by rw [zF]; omega) (fun a b => absurd b (h a))
  unfold f_X6_leastEffortUp
  refine ⟨fun c => ?_, fun c => ?_⟩
  · have c := (not_congr (i_eq e1v m15)).mp c
    exact b21 (fun a => by omega)
  · have c := (i_eq e1v m15).mp c
    have eq : q = n := by omega
    intro b h; cases g6.symm.trans h
    rw [n1]
    refine ⟨vi_of e1v (by omega) (by omega), fun c3 => b21 (fun _ o => ?_), fun _ => go _ (by rw [z0]; omega) (fun _ _ => rfl)⟩
    rw [← eq] at o
    exact absurd c3 ((iop q hq).mpr o)
/-- what a pilgrim's moves are, once laid -/
def LAID (Z : jZ) (I : jI) (v0 u4 u5 u6 u7 lp n : Nat) (op : Nat → Prop) (C E : Nat → Nat → Int) : Prop := ∃ lu : Nat → Int, MVs Z I v0 u4 u5 u6 u7 lp n op C E lu ∧ LUs lp n op E lu ∧ ∀ q, lu q ≤ 2000000
theorem LAID_of {Z : jZ} {I : jI} {v0 u4 u5 u6 u7 lp n : Nat} {op : Nat → Prop} {C E : Nat → Nat → Int} (g : jr Z v0 4 = some u4 ∧ jr Z v0 5 = some u5 ∧ jr Z v0 6 = some u6 ∧ jr Z v0 7 = some u7) (m3 : (I v0 3).toInt = (lp : Int)) (m15 : (I v0 15).toInt = (n : Int)) (iop : ∀ p, p ≤ n → (I u6 p ≠ 0 ↔ op p)) (hm : MSD I u4 u5 lp n op C E (n + 1) 1) (hT : LUT I u7 lp n op E 0) : LAID Z I v0 u4 u5 u6 u7 lp n op C E := by
  refine ⟨fun q => if q ≤ n then (I u7 q).toInt else 0, ⟨g, m3, m15, iop, fun p far ha hp => hm p far hp ha (Or.inl (by omega)), fun p hp => (if_pos hp).symm⟩, ⟨fun q far h1 h2 h3 o1 o2 => ?_, fun o => ?_, fun q => ?_⟩, fun q => ?_⟩
  · show (if q ≤ n then (I u7 q).toInt else 0) ≤ E (q + far) far + (if q + far ≤ n then (I u7 (q + far)).toInt else 0)
    rw [if_pos (by omega), if_pos h3]
    exact (hT q (Nat.zero_le _) (by omega)).2.2 far h1 h2 h3 o1 o2
  · show (if n ≤ n then (I u7 n).toInt else 0) = 0
    rw [if_pos (Nat.le_refl _)]
    exact (hT n (Nat.zero_le _) (Nat.le_refl _)).2.1 rfl o
  · show 0 ≤ (if q ≤ n then (I u7 q).toInt else 0)
    by_cases c : q ≤ n
    · rw [if_pos c]
      exact (hT q (Nat.zero_le _) c).1.1
    · rw [if_neg c]
      exact Int.le_refl _
  · show (if q ≤ n then (I u7 q).toInt else 0) ≤ 2000000
    by_cases c : q ≤ n
    · rw [if_pos c]
      have := (hT q (Nat.zero_le _) c).1.2
      omega
    · rw [if_neg c]
      omega
set_option maxHeartbeats 2000000 in
theorem c_lay_L104 {Z : jZ} {I0 I2 : jI} {v0 v8 u0 u1 lp n : Nat} {ld : Int} {PR : Int → Int → Int → Int → Int → Int} {H G : Int → Int} (S : SQ Z I0 v0 v8 u0 u1 lp n ld PR H G) (u4 u5 u6 u7 : Nat) (g4 : jr Z v0 4 = some u4) (g5 : jr Z v0 5 = some u5) (g6 : jr Z v0 6 = some u6) (g7 : jr Z v0 7 = some u7) (op : Nat → Prop) (iop : ∀ p, p ≤ n → (I2 u6 p ≠ 0 ↔ op p)) (i15 : (I2 v0 15).toInt = (n : Int)) (hm : MSD I2 u4 u5 lp n op (CCp PR ld) (EEp H G ld) (n + 1) 1) {Q : jI → jL → Prop}
    (hQ : ∀ (I' : jI) (L' : jL), WD Z I' → FR Wl Z I0 Z I' → LAID Z I' v0 u4 u5 u6 u7 lp n op (CCp PR ld) (EEp H G ld) → Q I' L') :
    ∀ (k p : Nat) (v4 : Int32) (I : jI) (L : jL), p ≤ n + 1 → p + 1 ≤ k → v4.toInt = (p : Int) - 1 → WD Z I → FR Wl Z I0 Z I → (∀ x, x ≠ u7 → I x = I2 x) → LUT I u7 lp n op (EEp H G ld) p → f_X6_lay_L104 Z Q k v0 v4 I L := by
  have z0 : (0 : Int32).toInt = 0 := rfl
  have zm : (-1 : Int32).toInt = -1 := by decide
  have n24 := S.n24
  obtain ⟨c4, c5, c6, c7, x4, x5, x6, x7, k4, k5, k6, k7, l4, l5, l6, l7, n4, n5, n6, n7, n45, n46, n47, n56, n57, n67⟩ := rou_at S.w0 S.kv
  cases g4.symm.trans x4; cases g5.symm.trans x5; cases g6.symm.trans x6; cases g7.symm.trans x7
  intro k
  induction k with
  | zero => intro p v4 I L h1 h2; omega
  | succ k ih =>
    intro p v4 I L h1 h2 e4v w f hx hT
    have m3 : (I v0 3).toInt = (lp : Int) := by rw [f.2.2.1 v0 6 3 S.kv (by decide) (by decide)]; exact S.h3
    have j15 : (I v0 15).toInt = (n : Int) := by rw [hx v0 n7]; exact i15
    have jop : ∀ p, p ≤ n → (I u6 p ≠ 0 ↔ op p) := by rw [hx u6 n67]; exact iop
    have jm : MSD I u4 u5 lp n op (CCp PR ld) (EEp H G ld) (n + 1) 1 := by
      unfold MSD
      rw [hx u4 n47, hx u5 n57]
      exact hm
    unfold f_X6_lay_L104
    refine ⟨fun c => ?_, fun c => ?_⟩
    · have c := (i_lt e4v z0).mp c
      have e : p = 0 := by omega
      rw [e] at hT
      exact hQ I L w f (LAID_of ⟨g4, g5, g6, g7⟩ m3 j15 jop jm hT)
    have c := (not_congr (i_lt e4v z0)).mp c
    obtain ⟨q, rfl⟩ : ∃ q, p = q + 1 := ⟨p - 1, by omega⟩
    have e4 : v4.toInt = (q : Int) := by omega
    have n4' : v4.toNatClampNeg = q := by have := i_nat e4 (by omega); omega
    intro b h; cases g7.symm.trans h
    refine r_X6_leastEffortUp v0 u5 u6 u7 lp n g5 g6 g7 op _ (EEp_rng S.bH S.bG S.l50) m3 j15 S.lp3 n24 jop (fun p far ha hp => (jm p far hp ha (Or.inl (by omega))).2) q (by omega) v4 e4 hT (fun r r1 r2 r3 => ?_)
    refine ⟨vi_of e4 (by omega) (by omega), fun I11 e11 x12 e12 => ?_⟩
    rw [n4'] at e11
    refine ih q x12 I11 L (by omega) (by omega) (by rw [e12]; exact (i_add e4 zm (by omega) (by omega)).trans (by omega)) ?_ ?_ (fun x hx' => by rw [e11, jpI_ne hx']; exact hx x hx') (fun q' h1' h2' => ?_)
    · rw [e11]
      exact WD_putA w 6 7 S.kv g7 k7 rfl rfl (by decide) trivial
    · refine FR.trans S.w0.1 S.w0.2.1 f ?_
      rw [e11]
      exact FR_putA w.2.1 S.kv g7 k7 rfl rfl (by decide)
    · have off : ∀ j, j ≠ q → I11 u7 j = I u7 j := fun j hj => by rw [e11, jpI_off hj]
      by_cases c9 : q' = q
      · subst c9
        have at_ : I11 u7 q' = r := by rw [e11, jpI_at]
        rw [at_]
        refine ⟨r1, r2, fun far f1 f2 f3 o1 o2 => ?_⟩
        rw [off _ (by omega)]
        exact r3 far f1 f2 f3 o1 o2
      · rw [off _ c9]
        have old := hT q' (by omega) h2'
        refine ⟨old.1, old.2.1, fun far f1 f2 f3 o1 o2 => ?_⟩
        rw [off _ (by omega)]
        exact old.2.2 far f1 f2 f3 o1 o2
/-- places that are open: the step isn't shut, its owner isn't vowed against -/
def opF (vow : Int32) (MN : Nat → Int32) (cl : Int) (p : Nat) : Prop := p = 0 ∨ (1 ≤ p ∧ ¬ ((p : Int) - 1 = cl) ∧ ((vow >>> (MN (p - 1) &&& 31)) &&& (1 : Int32)) = 0)
/-- owners as the class tells them -/
def MNC (Z : jZ) (I0 : jI) (v4s : Nat) (n : Nat) (MN : Nat → Int32) : Prop := ∀ (v1 : Int32) (s : Nat) (I : jI) (L : jL) (Q : Int32 → jI → jL → Prop), WD Z I → FR Wl Z I0 Z I → v1.toInt = (s : Int) → s < n → Q (MN s) I L → f_X4_mainOf v4s v1 Z I L Q
theorem nar_1 : vp_nar .boolean (1 : Int32) = 1 := by decide
theorem nar_0 : vp_nar .boolean (0 : Int32) = 0 := by decide
set_option maxHeartbeats 4000000 in
theorem c_lay_L31 {Z : jZ} {I0 : jI} {v0 v8 v4s u0 u1 lp n : Nat} {ld : Int} {PR : Int → Int → Int → Int → Int → Int} {H G : Int → Int} (S : SQ Z I0 v0 v8 u0 u1 lp n ld PR H G) (h4s : jr Z v8 4 = some v4s) (MN : Nat → Int32) (hMN : MNC Z I0 v4s n MN) (vow : Int32) (cl : Int) (v3 : Int32) (e3v : v3.toInt = cl) (u4 u5 u6 u7 : Nat) (g4 : jr Z v0 4 = some u4) (g5 : jr Z v0 5 = some u5) (g6 : jr Z v0 6 = some u6) (g7 : jr Z v0 7 = some u7) {Q : jI → jL → Prop}
    (hQ : ∀ (I' : jI) (L' : jL), WD Z I' → FR Wl Z I0 Z I' → LAID Z I' v0 u4 u5 u6 u7 lp n (opF vow MN cl) (CCp PR ld) (EEp H G ld) → Q I' L') :
    ∀ (k p : Nat) (v4 : Int32) (I : jI) (L : jL), 1 ≤ p → p ≤ n + 1 → n + 2 ≤ k + p → v4.toInt = (p : Int) → WD Z I → FR Wl Z I0 Z I → (I v0 14).toInt = ld → (I v0 15).toInt = (n : Int) → (∀ q, q < p → (I u6 q ≠ 0 ↔ opF vow MN cl q)) → f_X6_lay_L31 Z Q k v0 vow v3 v4 I L := by
  have z0 : (0 : Int32).toInt = 0 := rfl
  have z1 : (1 : Int32).toInt = 1 := rfl
  have n24 := S.n24
  obtain ⟨c4, c5, c6, c7, x4, x5, x6, x7, k4, k5, k6, k7, l4, l5, l6, l7, n4, n5, n6, n7, n45, n46, n47, n56, n57, n67⟩ := rou_at S.w0 S.kv
  cases g4.symm.trans x4; cases g5.symm.trans x5; cases g6.symm.trans x6; cases g7.symm.trans x7
  intro k
  induction k with
  | zero => intro p v4 I L h1 h2 h3; omega
  | succ k ih =>
    intro p v4 I L h1 h2 h3 e4v w f i14 i15 iop
    unfold f_X6_lay_L31
    refine ⟨fun c => ?_, fun c => ?_⟩
    · have c := (i_lt i15 e4v).mp c
      have ep : p = n + 1 := by omega
      rw [ep] at iop
      have jop : ∀ q, q ≤ n → (I u6 q ≠ 0 ↔ opF vow MN cl q) := fun q hq => iop q (by omega)
      unfold f_X6_measure
      intro x40 e40
      have t40 : x40.toInt = ((1 : Nat) : Int) := by rw [e40]; rfl
      refine ⟨n + 1, c_meas_L6 S u4 u5 u6 g4 g5 g6 (opF vow MN cl) (I2 := I) i14 i15 jop (I v0 15) i15 (fun I19 L20 w19 f19 a6 a0 hm => ?_) (n + 1) 1 x40 I L (Nat.le_refl _) (by omega) (by omega) t40 w f rfl rfl (fun p' f' _ ha hlt => ?_)⟩
      · intro x23 e23
        have b15 : (I19 v0 15).toInt = (n : Int) := by rw [a0]; exact i15
        exact ⟨n + 2, c_lay_L104 S u4 u5 u6 u7 g4 g5 g6 g7 (opF vow MN cl) (I2 := I19) (by rw [a6]; exact jop) b15 hm hQ (n + 2) (n + 1) x23 I19 L20 (Nat.le_refl _) (Nat.le_refl _) (by rw [e23, b15]; omega) w19 f19 (fun _ _ => rfl) (fun q h1 h2 => by omega)⟩
      · have h1 := ha.1
        have h2 := ha.2.2.1
        omega
    have c := (not_congr (i_lt i15 e4v)).mp c
    have n4v : v4.toNatClampNeg = p := by have := i_nat e4v (by omega); omega
    intro x25 e25
    have t25 : x25.toInt = ((p - 1 : Nat) : Int) := by
      rw [e25]
      exact (i_sub e4v z1 (by omega) (by omega)).trans (by omega)
    have put : ∀ s2 : Int32, (vp_nar .boolean s2 ≠ 0 ↔ opF vow MN cl p) → f_X6_lay_b82 (f_X6_lay_L31 Z Q k) Z Q v0 vow v3 v4 u6 v4 s2 I L := fun s2 hs => by
      unfold f_X6_lay_b82
      refine ⟨by rw [l6]; exact vi_of e4v (by omega) (by omega), fun I14 e14 x15 e15 => ?_⟩
      rw [n4v] at e14
      refine ih (p + 1) x15 I14 L (by omega) (by omega) (by omega) (by rw [e15]; exact (i_add e4v z1 (by omega) (by omega)).trans (by omega)) ?_ ?_ (by rw [e14, jpI_ne n6]; exact i14) (by rw [e14, jpI_ne n6]; exact i15) (fun q hq => ?_)
      · rw [e14]
        exact WD_putA w 6 6 S.kv g6 k6 rfl rfl (by decide) trivial
      · refine FR.trans S.w0.1 S.w0.2.1 f ?_
        rw [e14]
        exact FR_putA w.2.1 S.kv g6 k6 rfl rfl (by decide)
      · rw [e14]
        by_cases c9 : q = p
        · rw [c9, jpI_at]
          exact hs
        · rw [jpI_off c9]
          exact iop q (by omega)
    have shut : ¬ opF vow MN cl p → f_X6_lay_b81 (f_X6_lay_L31 Z Q k) Z Q v0 vow v3 v4 u6 v4 I L := fun hn => by
      unfold f_X6_lay_b81
      exact put 0 ⟨fun q => absurd nar_0 q, fun q => absurd q hn⟩
    intro b h; cases g6.symm.trans h
    refine ⟨fun c2 => shut (fun o => ?_), fun c2 => ?_⟩
    · have c2 := (i_eq t25 e3v).mp c2
      rcases o with o | o
      · omega
      · exact o.2.1 (by omega)
    have c2 := (not_congr (i_eq t25 e3v)).mp c2
    intro b h; cases S.h8.symm.trans h
    intro b h; cases h4s.symm.trans h
    refine hMN x25 (p - 1) I L _ w f t25 (by omega) ⟨fun c3 => shut (fun o => ?_), fun c3 => ?_⟩
    · rcases o with o | o
      · omega
      · exact c3 o.2.2
    · refine put 1 ⟨fun _ => Or.inr ⟨h1, by omega, c3⟩, fun _ q => ?_⟩
      rw [nar_1] at q
      exact absurd q (by decide)
set_option maxHeartbeats 2000000 in
theorem r_X6_lay {Z : jZ} {I0 : jI} {L : jL} {v0 v8 v4s u0 u1 lp n : Nat} {ld : Int} {PR : Int → Int → Int → Int → Int → Int} {H G : Int → Int} (S : SQ Z I0 v0 v8 u0 u1 lp n ld PR H G) (h4s : jr Z v8 4 = some v4s) (MN : Nat → Int32) (hMN : MNC Z I0 v4s n MN) (v1 vow v3 : Int32) (cl : Int) (e1v : v1.toInt = ld) (e3v : v3.toInt = cl) {Q : jI → jL → Prop}
    (hQ : ∀ (I' : jI) (L' : jL) (u4 u5 u6 u7 : Nat), WD Z I' → FR Wl Z I0 Z I' → LAID Z I' v0 u4 u5 u6 u7 lp n (opF vow MN cl) (CCp PR ld) (EEp H G ld) → Q I' L') : f_X6_lay v0 v1 vow v3 Z I0 L Q := by
  have z0 : (0 : Int32).toInt = 0 := rfl
  have z24 : (24 : Int32).toInt = 24 := rfl
  have n24 := S.n24
  obtain ⟨u4, u5, u6, u7, g4, g5, g6, g7, k4, k5, k6, k7, l4, l5, l6, l7, n4, n5, n6, n7, n45, n46, n47, n56, n57, n67⟩ := rou_at S.w0 S.kv
  have n08 : v8 ≠ v0 := fun q => by
    have h := S.k8.2
    rw [q] at h
    have := S.kv.2.symm.trans h
    omega
  unfold f_X6_lay
  intro I38 e38
  have w38 : WD Z I38 := by rw [e38]; exact WD_putF S.w0 6 14 S.kv (by decide) (by decide) trivial
  have f38 : FR Wl Z I0 Z I38 := by rw [e38]; exact FR_putF S.kv (by decide) (by decide)
  intro b h; cases S.h8.symm.trans h
  intro I40 e40
  have a9 : (I38 v8 9).toInt = (n : Int) := by rw [e38, jpI_ne n08]; exact S.h9
  have tm : (if (24 : Int32) < (I38 v8 9) then (24 : Int32) else (I38 v8 9)).toInt = (n : Int) := by
    rw [if_neg (fun c => ?_)]
    · exact a9
    · have c := (i_lt z24 a9).mp c
      omega
  have w40 : WD Z I40 := by rw [e40]; exact WD_putF w38 6 15 S.kv (by decide) (by decide) (show rg 0 24 _ from ⟨by rw [tm]; omega, by rw [tm]; omega⟩)
  have f40 : FR Wl Z I38 Z I40 := by rw [e40]; exact FR_putF S.kv (by decide) (by decide)
  intro b h; cases g6.symm.trans h
  intro I42 e42
  have q0 : (0 : Int32).toNatClampNeg = 0 := rfl
  rw [q0, nar_1] at e42
  have w42 : WD Z I42 := by rw [e42]; exact WD_putA w40 6 6 S.kv g6 k6 rfl rfl (by decide) trivial
  have f42 : FR Wl Z I40 Z I42 := by rw [e42]; exact FR_putA w40.2.1 S.kv g6 k6 rfl rfl (by decide)
  refine ⟨n + 1, c_lay_L31 S h4s MN hMN vow cl v3 e3v u4 u5 u6 u7 g4 g5 g6 g7 (fun I' L' w' f' h' => hQ I' L' u4 u5 u6 u7 w' f' h') (n + 1) 1 (1 : Int32) I42 L (Nat.le_refl _) (by omega) (by omega) rfl w42 (FR.trans S.w0.1 S.w0.2.1 f38 (FR.trans w38.1 w38.2.1 f40 f42)) ?_ ?_ (fun q hq => ?_)⟩
  · rw [e42, jpI_ne n6, e40, jpI_off (by decide), e38, jpI_at]
    exact e1v
  · rw [e42, jpI_ne n6, e40, jpI_at]
    exact tm
  · have e : q = 0 := by omega
    rw [e, e42, jpI_at]
    exact ⟨fun _ => Or.inl rfl, fun _ => by decide⟩
/-! ===== the reference lays its moves ===== -/
theorem i_and1 {x : Int32} : (x &&& (1 : Int32)) = 0 ∨ (x &&& (1 : Int32)) = 1 := by
  have e : (x &&& (1 : Int32)).toBitVec = x.toBitVec &&& (1 : Int32).toBitVec := rfl
  have hn : (x &&& (1 : Int32)).toBitVec.toNat = x.toBitVec.toNat % 2 := by
    rw [e, BitVec.toNat_and]
    exact Nat.and_two_pow_sub_one_eq_mod _ 1
  have h1 : (x &&& (1 : Int32)).toInt = (x &&& (1 : Int32)).toBitVec.toInt := rfl
  have h2 : (x &&& (1 : Int32)).toInt = ((x.toBitVec.toNat % 2 : Nat) : Int) := by
    rw [h1, BitVec.toInt_eq_toNat_cond, hn]
    split <;> omega
  by_cases c : x.toBitVec.toNat % 2 = 0
  · exact Or.inl (Int32.toInt_inj.mp (by rw [h2, c]; rfl))
  · exact Or.inr (Int32.toInt_inj.mp (by rw [h2, show x.toBitVec.toNat % 2 = 1 by omega]; rfl))
def Wm : List (Nat × Nat) := [(12, 24), (12, 25), (12, 26), (12, 27), (12, 31), (12, 32), (12, 33), (12, 34), (12, 37), (12, 38)]
/-- prices of the reference -/
def PRM (B : Nat × Nat) (T : Nat) (Z0 : jZ) (I0 : jI) (v0 : Nat) (n : Int) (PR : Int → Int → Int → Int → Int → Int) : Prop := ∀ (v1 v2 v3 v4 v5 : Int32) (Z : jZ) (I : jI) (L : jL) (Q : Int32 → jZ → jI → jL → Prop), WD Z I → BUD B Z T → FR Wm Z0 I0 Z I → 0 ≤ v1.toInt ∧ v1.toInt ≤ 1 → 0 ≤ v2.toInt ∧ v2.toInt < n → -1 ≤ v3.toInt ∧ v3.toInt < n → (∀ (r : Int32) (Z' : jZ) (I' : jI) (L' : jL), WD Z' I' → BUD B Z' T → FR Ws_X12_lawOf Z I Z' I' → CP Z Z' → r.toInt = PR v1.toInt v2.toInt v3.toInt v5.toInt v4.toInt → Q r Z' I' L') → f_X12_lawOf B v0 v1 v2 v3 v4 v5 Z I L Q
/-- owners of the reference -/
def MNM (Z0 : jZ) (I0 : jI) (v0 n : Nat) (MN : Nat → Int32) : Prop := ∀ (v1 : Int32) (s : Nat) (Z : jZ) (I : jI) (L : jL) (Q : Int32 → jI → jL → Prop), WD Z I → FR Wm Z0 I0 Z I → v1.toInt = (s : Int) → s < n → Q (MN s) I L → f_X12_mainOf v0 v1 Z I L Q
def SMd (B : Nat × Nat) (T : Nat) (Z : jZ) (I0 : jI) (v0 u1 u2 u11 u12 u13 t37 t38 pi lp n : Nat) (ld cl : Int) (vow : Int32) (MN : Nat → Int32) (PR : Int → Int → Int → Int → Int → Int) (H G : Int → Int) : Prop := (WD Z I0) ∧ (jk Z v0 12) ∧ (jr Z v0 1 = some u1) ∧ (jr Z v0 2 = some u2) ∧ (jr Z v0 11 = some u11) ∧ (jr Z v0 12 = some u12) ∧ (jr Z v0 13 = some u13) ∧ (jr Z v0 37 = some t37) ∧ (jr Z v0 38 = some t38) ∧ (PRM B T Z I0 v0 (n : Int) PR) ∧ (MNM Z I0 v0 n MN) ∧ (∀ a b c d e, 0 ≤ PR a b c d e ∧ PR a b c d e ≤ 99) ∧ (∀ s, 0 ≤ H s ∧ H s ≤ 30) ∧ (∀ s, 0 ≤ G s ∧ G s ≤ 9) ∧ (∀ s : Nat, (s : Int) < (n : Int) → (I0 u1 s).toInt = H s) ∧ (∀ s : Nat, (s : Int) < (n : Int) → (I0 u2 s).toInt = G s) ∧ ((I0 v0 0).toInt = (n : Int)) ∧ ((I0 u11 pi).toInt = (lp : Int) ∧ lp ≤ 3) ∧ ((I0 u12 pi).toInt = ld ∧ 0 ≤ ld ∧ ld ≤ 50) ∧ (I0 u13 pi = vow) ∧ ((I0 v0 39).toInt = cl) ∧ (n ≤ 24) ∧ (pi < 6)
theorem SMd.w0 {B : Nat × Nat} {T : Nat} {Z : jZ} {I0 : jI} {v0 u1 u2 u11 u12 u13 t37 t38 pi lp n : Nat} {ld cl : Int} {vow : Int32} {MN : Nat → Int32} {PR : Int → Int → Int → Int → Int → Int} {H G : Int → Int} (h : SMd B T Z I0 v0 u1 u2 u11 u12 u13 t37 t38 pi lp n ld cl vow MN PR H G) : WD Z I0 := h.1
theorem SMd.kv {B : Nat × Nat} {T : Nat} {Z : jZ} {I0 : jI} {v0 u1 u2 u11 u12 u13 t37 t38 pi lp n : Nat} {ld cl : Int} {vow : Int32} {MN : Nat → Int32} {PR : Int → Int → Int → Int → Int → Int} {H G : Int → Int} (h : SMd B T Z I0 v0 u1 u2 u11 u12 u13 t37 t38 pi lp n ld cl vow MN PR H G) : jk Z v0 12 := h.2.1
theorem SMd.h1 {B : Nat × Nat} {T : Nat} {Z : jZ} {I0 : jI} {v0 u1 u2 u11 u12 u13 t37 t38 pi lp n : Nat} {ld cl : Int} {vow : Int32} {MN : Nat → Int32} {PR : Int → Int → Int → Int → Int → Int} {H G : Int → Int} (h : SMd B T Z I0 v0 u1 u2 u11 u12 u13 t37 t38 pi lp n ld cl vow MN PR H G) : jr Z v0 1 = some u1 := h.2.2.1
theorem SMd.h2 {B : Nat × Nat} {T : Nat} {Z : jZ} {I0 : jI} {v0 u1 u2 u11 u12 u13 t37 t38 pi lp n : Nat} {ld cl : Int} {vow : Int32} {MN : Nat → Int32} {PR : Int → Int → Int → Int → Int → Int} {H G : Int → Int} (h : SMd B T Z I0 v0 u1 u2 u11 u12 u13 t37 t38 pi lp n ld cl vow MN PR H G) : jr Z v0 2 = some u2 := h.2.2.2.1
theorem SMd.h11 {B : Nat × Nat} {T : Nat} {Z : jZ} {I0 : jI} {v0 u1 u2 u11 u12 u13 t37 t38 pi lp n : Nat} {ld cl : Int} {vow : Int32} {MN : Nat → Int32} {PR : Int → Int → Int → Int → Int → Int} {H G : Int → Int} (h : SMd B T Z I0 v0 u1 u2 u11 u12 u13 t37 t38 pi lp n ld cl vow MN PR H G) : jr Z v0 11 = some u11 := h.2.2.2.2.1
theorem SMd.h12 {B : Nat × Nat} {T : Nat} {Z : jZ} {I0 : jI} {v0 u1 u2 u11 u12 u13 t37 t38 pi lp n : Nat} {ld cl : Int} {vow : Int32} {MN : Nat → Int32} {PR : Int → Int → Int → Int → Int → Int} {H G : Int → Int} (h : SMd B T Z I0 v0 u1 u2 u11 u12 u13 t37 t38 pi lp n ld cl vow MN PR H G) : jr Z v0 12 = some u12 := h.2.2.2.2.2.1
theorem SMd.h13 {B : Nat × Nat} {T : Nat} {Z : jZ} {I0 : jI} {v0 u1 u2 u11 u12 u13 t37 t38 pi lp n : Nat} {ld cl : Int} {vow : Int32} {MN : Nat → Int32} {PR : Int → Int → Int → Int → Int → Int} {H G : Int → Int} (h : SMd B T Z I0 v0 u1 u2 u11 u12 u13 t37 t38 pi lp n ld cl vow MN PR H G) : jr Z v0 13 = some u13 := h.2.2.2.2.2.2.1
theorem SMd.h37 {B : Nat × Nat} {T : Nat} {Z : jZ} {I0 : jI} {v0 u1 u2 u11 u12 u13 t37 t38 pi lp n : Nat} {ld cl : Int} {vow : Int32} {MN : Nat → Int32} {PR : Int → Int → Int → Int → Int → Int} {H G : Int → Int} (h : SMd B T Z I0 v0 u1 u2 u11 u12 u13 t37 t38 pi lp n ld cl vow MN PR H G) : jr Z v0 37 = some t37 := h.2.2.2.2.2.2.2.1
theorem SMd.h38 {B : Nat × Nat} {T : Nat} {Z : jZ} {I0 : jI} {v0 u1 u2 u11 u12 u13 t37 t38 pi lp n : Nat} {ld cl : Int} {vow : Int32} {MN : Nat → Int32} {PR : Int → Int → Int → Int → Int → Int} {H G : Int → Int} (h : SMd B T Z I0 v0 u1 u2 u11 u12 u13 t37 t38 pi lp n ld cl vow MN PR H G) : jr Z v0 38 = some t38 := h.2.2.2.2.2.2.2.2.1
theorem SMd.hP {B : Nat × Nat} {T : Nat} {Z : jZ} {I0 : jI} {v0 u1 u2 u11 u12 u13 t37 t38 pi lp n : Nat} {ld cl : Int} {vow : Int32} {MN : Nat → Int32} {PR : Int → Int → Int → Int → Int → Int} {H G : Int → Int} (h : SMd B T Z I0 v0 u1 u2 u11 u12 u13 t37 t38 pi lp n ld cl vow MN PR H G) : PRM B T Z I0 v0 (n : Int) PR := h.2.2.2.2.2.2.2.2.2.1
theorem SMd.hM {B : Nat × Nat} {T : Nat} {Z : jZ} {I0 : jI} {v0 u1 u2 u11 u12 u13 t37 t38 pi lp n : Nat} {ld cl : Int} {vow : Int32} {MN : Nat → Int32} {PR : Int → Int → Int → Int → Int → Int} {H G : Int → Int} (h : SMd B T Z I0 v0 u1 u2 u11 u12 u13 t37 t38 pi lp n ld cl vow MN PR H G) : MNM Z I0 v0 n MN := h.2.2.2.2.2.2.2.2.2.2.1
theorem SMd.bP {B : Nat × Nat} {T : Nat} {Z : jZ} {I0 : jI} {v0 u1 u2 u11 u12 u13 t37 t38 pi lp n : Nat} {ld cl : Int} {vow : Int32} {MN : Nat → Int32} {PR : Int → Int → Int → Int → Int → Int} {H G : Int → Int} (h : SMd B T Z I0 v0 u1 u2 u11 u12 u13 t37 t38 pi lp n ld cl vow MN PR H G) : ∀ a b c d e, 0 ≤ PR a b c d e ∧ PR a b c d e ≤ 99 := h.2.2.2.2.2.2.2.2.2.2.2.1
theorem SMd.bH {B : Nat × Nat} {T : Nat} {Z : jZ} {I0 : jI} {v0 u1 u2 u11 u12 u13 t37 t38 pi lp n : Nat} {ld cl : Int} {vow : Int32} {MN : Nat → Int32} {PR : Int → Int → Int → Int → Int → Int} {H G : Int → Int} (h : SMd B T Z I0 v0 u1 u2 u11 u12 u13 t37 t38 pi lp n ld cl vow MN PR H G) : ∀ s, 0 ≤ H s ∧ H s ≤ 30 := h.2.2.2.2.2.2.2.2.2.2.2.2.1
theorem SMd.bG {B : Nat × Nat} {T : Nat} {Z : jZ} {I0 : jI} {v0 u1 u2 u11 u12 u13 t37 t38 pi lp n : Nat} {ld cl : Int} {vow : Int32} {MN : Nat → Int32} {PR : Int → Int → Int → Int → Int → Int} {H G : Int → Int} (h : SMd B T Z I0 v0 u1 u2 u11 u12 u13 t37 t38 pi lp n ld cl vow MN PR H G) : ∀ s, 0 ≤ G s ∧ G s ≤ 9 := h.2.2.2.2.2.2.2.2.2.2.2.2.2.1
theorem SMd.hH {B : Nat × Nat} {T : Nat} {Z : jZ} {I0 : jI} {v0 u1 u2 u11 u12 u13 t37 t38 pi lp n : Nat} {ld cl : Int} {vow : Int32} {MN : Nat → Int32} {PR : Int → Int → Int → Int → Int → Int} {H G : Int → Int} (h : SMd B T Z I0 v0 u1 u2 u11 u12 u13 t37 t38 pi lp n ld cl vow MN PR H G) : ∀ s : Nat, (s : Int) < (n : Int) → (I0 u1 s).toInt = H s := h.2.2.2.2.2.2.2.2.2.2.2.2.2.2.1
theorem SMd.hG {B : Nat × Nat} {T : Nat} {Z : jZ} {I0 : jI} {v0 u1 u2 u11 u12 u13 t37 t38 pi lp n : Nat} {ld cl : Int} {vow : Int32} {MN : Nat → Int32} {PR : Int → Int → Int → Int → Int → Int} {H G : Int → Int} (h : SMd B T Z I0 v0 u1 u2 u11 u12 u13 t37 t38 pi lp n ld cl vow MN PR H G) : ∀ s : Nat, (s : Int) < (n : Int) → (I0 u2 s).toInt = G s := h.2.2.2.2.2.2.2.2.2.2.2.2.2.2.2.1
theorem SMd.h0 {B : Nat × Nat} {T : Nat} {Z : jZ} {I0 : jI} {v0 u1 u2 u11 u12 u13 t37 t38 pi lp n : Nat} {ld cl : Int} {vow : Int32} {MN : Nat → Int32} {PR : Int → Int → Int → Int → Int → Int} {H G : Int → Int} (h : SMd B T Z I0 v0 u1 u2 u11 u12 u13 t37 t38 pi lp n ld cl vow MN PR H G) : (I0 v0 0).toInt = (n : Int) := h.2.2.2.2.2.2.2.2.2.2.2.2.2.2.2.2.1
theorem SMd.lp3 {B : Nat × Nat} {T : Nat} {Z : jZ} {I0 : jI} {v0 u1 u2 u11 u12 u13 t37 t38 pi lp n : Nat} {ld cl : Int} {vow : Int32} {MN : Nat → Int32} {PR : Int → Int → Int → Int → Int → Int} {H G : Int → Int} (h : SMd B T Z I0 v0 u1 u2 u11 u12 u13 t37 t38 pi lp n ld cl vow MN PR H G) : (I0 u11 pi).toInt = (lp : Int) ∧ lp ≤ 3 := h.2.2.2.2.2.2.2.2.2.2.2.2.2.2.2.2.2.1
theorem SMd.l50 {B : Nat × Nat} {T : Nat} {Z : jZ} {I0 : jI} {v0 u1 u2 u11 u12 u13 t37 t38 pi lp n : Nat} {ld cl : Int} {vow : Int32} {MN : Nat → Int32} {PR : Int → Int → Int → Int → Int → Int} {H G : Int → Int} (h : SMd B T Z I0 v0 u1 u2 u11 u12 u13 t37 t38 pi lp n ld cl vow MN PR H G) : (I0 u12 pi).toInt = ld ∧ 0 ≤ ld ∧ ld ≤ 50 := h.2.2.2.2.2.2.2.2.2.2.2.2.2.2.2.2.2.2.1
theorem SMd.vw {B : Nat × Nat} {T : Nat} {Z : jZ} {I0 : jI} {v0 u1 u2 u11 u12 u13 t37 t38 pi lp n : Nat} {ld cl : Int} {vow : Int32} {MN : Nat → Int32} {PR : Int → Int → Int → Int → Int → Int} {H G : Int → Int} (h : SMd B T Z I0 v0 u1 u2 u11 u12 u13 t37 t38 pi lp n ld cl vow MN PR H G) : I0 u13 pi = vow := h.2.2.2.2.2.2.2.2.2.2.2.2.2.2.2.2.2.2.2.1
theorem SMd.sh {B : Nat × Nat} {T : Nat} {Z : jZ} {I0 : jI} {v0 u1 u2 u11 u12 u13 t37 t38 pi lp n : Nat} {ld cl : Int} {vow : Int32} {MN : Nat → Int32} {PR : Int → Int → Int → Int → Int → Int} {H G : Int → Int} (h : SMd B T Z I0 v0 u1 u2 u11 u12 u13 t37 t38 pi lp n ld cl vow MN PR H G) : (I0 v0 39).toInt = cl := h.2.2.2.2.2.2.2.2.2.2.2.2.2.2.2.2.2.2.2.2.1
theorem SMd.n24 {B : Nat × Nat} {T : Nat} {Z : jZ} {I0 : jI} {v0 u1 u2 u11 u12 u13 t37 t38 pi lp n : Nat} {ld cl : Int} {vow : Int32} {MN : Nat → Int32} {PR : Int → Int → Int → Int → Int → Int} {H G : Int → Int} (h : SMd B T Z I0 v0 u1 u2 u11 u12 u13 t37 t38 pi lp n ld cl vow MN PR H G) : n ≤ 24 := h.2.2.2.2.2.2.2.2.2.2.2.2.2.2.2.2.2.2.2.2.2.1
theorem SMd.pi6 {B : Nat × Nat} {T : Nat} {Z : jZ} {I0 : jI} {v0 u1 u2 u11 u12 u13 t37 t38 pi lp n : Nat} {ld cl : Int} {vow : Int32} {MN : Nat → Int32} {PR : Int → Int → Int → Int → Int → Int} {H G : Int → Int} (h : SMd B T Z I0 v0 u1 u2 u11 u12 u13 t37 t38 pi lp n ld cl vow MN PR H G) : pi < 6 := h.2.2.2.2.2.2.2.2.2.2.2.2.2.2.2.2.2.2.2.2.2.2
/-- an array of the reference that stays -/
theorem kpA {W : List (Nat × Nat)} {Z Z' : jZ} {I I' : jI} {v0 j u k m : Nat} (kv : jk Z v0 12) (f : FR W Z I Z' I') (h : jr Z v0 j = some u) (hk : jk Z u k) (h14 : jia k = true) (hj : (12, j) ∉ W) (h23 : j ≠ 23) : jr Z' v0 j = some u ∧ I' u = I u ∧ jk Z' u k := by
  refine ⟨(f.2.1 v0 12 j kv (by omega) (by omega)).trans h, f.2.2.2 v0 12 j u kv h (by rw [hk.2]; exact h14) (jsr12 h23) hj, (f.1 u k hk).1⟩
theorem c_mcost_L29 {B : Nat × Nat} {T : Nat} {Z0 Z1 : jZ} {I0 I1 : jI} {v0 u1 u2 u11 u12 u13 t37 t38 pi lp n : Nat} {ld cl : Int} {vow : Int32} {MN : Nat → Int32} {PR : Int → Int → Int → Int → Int → Int} {H G : Int → Int} (S : SMd B T Z0 I0 v0 u1 u2 u11 u12 u13 t37 t38 pi lp n ld cl vow MN PR H G) (w1 : WD Z1 I1) (f1 : FR Wm Z0 I0 Z1 I1) (v1 v2 v3 v4 : Int32) (fr to lq : Int) (e1v : v1.toInt = (pi : Int)) (e2v : v2.toInt = fr) (e3v : v3.toInt = to) (e4v : v4.toInt = lq) (hf : -1 ≤ fr) (ht : to < (n : Int)) (X : Int) (hX : X ≤ 1000) {Q : Int32 → jZ → jI → jL → Prop}
    (hQ : ∀ (r : Int32) (Z' : jZ) (I' : jI) (L' : jL), WD Z' I' → BUD B Z' T → FR Ws_X12_lawOf Z1 I1 Z' I' → CP Z1 Z' → r.toInt = X → Q r Z' I' L') :
    ∀ (k n' : Nat) (v5 v6 : Int32) (a s : Int) (Z : jZ) (I : jI) (L : jL), k + 1 ≤ n' → v5.toInt = a → v6.toInt = s → 0 ≤ a → fr < s → s + (k : Int) = to → a + CSm PR fr lq ld k s = X → WD Z I → BUD B Z T → FR Ws_X12_lawOf Z1 I1 Z I → CP Z1 Z → f_X12_costOf_L29 B Q n' v0 v1 v2 v3 v4 v5 v6 Z I L := by
  have z1 : (1 : Int32).toInt = 1 := rfl
  have q1 : v1.toNatClampNeg = pi := by have := i_nat e1v (by omega); omega
  have pi6 := S.pi6
  have n24 := S.n24
  have sub : ∀ p ∈ Ws_X12_lawOf, p ∈ Wm := by decide
  intro k
  induction k with
  | zero =>
    intro n' v5 v6 a s Z I L hn e5v e6v ha hs hk hx w bd f cp
    obtain ⟨m, rfl⟩ : ∃ m, n' = m + 1 := ⟨n' - 1, by omega⟩
    unfold f_X12_costOf_L29
    refine ⟨fun _ => hQ v5 Z I L w bd f cp ?_, fun c => absurd ((i_le e3v e6v).mpr (by omega)) c⟩
    have hx : a + 0 = X := hx
    omega
  | succ k ih =>
    intro n' v5 v6 a s Z I L hn e5v e6v ha hs hk hx w bd f cp
    obtain ⟨m, rfl⟩ : ∃ m, n' = m + 1 := ⟨n' - 1, by omega⟩
    have hx : a + (PR 1 s fr lq ld + CSm PR fr lq ld k (s + 1)) = X := hx
    have c0 := CSm_rng S.bP (fr := fr) (lp := lq) (ld := ld) k (s + 1)
    have p0 := S.bP 1 s fr lq ld
    have fa : FR Wm Z0 I0 Z I := FR.trans S.w0.1 S.w0.2.1 f1 (f.mono sub)
    obtain ⟨x, ex, k12, -⟩ := sh_f S.w0.1 S.kv (j := 12) (k := 14) (m := 6) rfl
    cases S.h12.symm.trans ex
    obtain ⟨a12, i12, -⟩ := kpA (m := 0) S.kv fa S.h12 k12 rfl (by decide) (by decide)
    unfold f_X12_costOf_L29
    refine ⟨fun c => absurd ((i_le e3v e6v).mp c) (by omega), fun _ => ?_⟩
    intro b h; cases a12.symm.trans h
    rw [q1, i12]
    refine ⟨vi_of e1v (by omega) (by omega), ?_⟩
    refine S.hP 1 v6 v2 _ v4 Z I L _ w bd fa (by rw [z1]; omega) (by omega) (by omega) (fun r Z' I' L' w' bd' f' cp' er => ?_)
    rw [z1, e6v, e2v, e4v, S.l50.1] at er
    intro x12 e12 x13 e13
    exact ih m x12 x13 (a + PR 1 s fr lq ld) (s + 1) Z' I' L' (by omega) (by rw [e12]; exact i_add e5v er (by omega) (by omega)) (by rw [e13]; exact i_add e6v z1 (by omega) (by omega)) (by omega) (by omega) (by omega) (by omega) w' bd' (FR.trans w1.1 w1.2.1 f f') (CP.trans f.1 cp cp')
theorem r_X12_costOf_f {B : Nat × Nat} {T : Nat} {Z0 Z : jZ} {I0 I : jI} {L : jL} {v0 u1 u2 u11 u12 u13 t37 t38 pi lp n : Nat} {ld cl : Int} {vow : Int32} {MN : Nat → Int32} {PR : Int → Int → Int → Int → Int → Int} {H G : Int → Int} (S : SMd B T Z0 I0 v0 u1 u2 u11 u12 u13 t37 t38 pi lp n ld cl vow MN PR H G) (w : WD Z I) (bd : BUD B Z T) (f1 : FR Wm Z0 I0 Z I) (v1 v2 v3 : Int32) (fr to : Int) (e1v : v1.toInt = (pi : Int)) (e2v : v2.toInt = fr) (e3v : v3.toInt = to) (hf : -1 ≤ fr) (hft : fr < to) (ht : to < (n : Int)) (h3 : to - fr ≤ 3) {Q : Int32 → jZ → jI → jL → Prop}
    (hQ : ∀ (r : Int32) (Z' : jZ) (I' : jI) (L' : jL), WD Z' I' → BUD B Z' T → FR Ws_X12_lawOf Z I Z' I' → CP Z Z' → r.toInt = CST PR fr to ld → Q r Z' I' L') : f_X12_costOf B v0 v1 v2 v3 Z I L Q := by
  have z0 : (0 : Int32).toInt = 0 := rfl
  have z1 : (1 : Int32).toInt = 1 := rfl
  have q1 : v1.toNatClampNeg = pi := by have := i_nat e1v (by omega); omega
  have pi6 := S.pi6
  have n24 := S.n24
  unfold f_X12_costOf
  intro x14 e14
  have t14 : x14.toInt = to - fr - 1 := by
    rw [e14]
    exact i_sub (i_sub e3v e2v (by omega) (by omega)) z1 (by omega) (by omega)
  obtain ⟨x, ex, k12, -⟩ := sh_f S.w0.1 S.kv (j := 12) (k := 14) (m := 6) rfl
  cases S.h12.symm.trans ex
  obtain ⟨a12, i12, -⟩ := kpA (m := 0) S.kv f1 S.h12 k12 rfl (by decide) (by decide)
  intro b h; cases a12.symm.trans h
  rw [q1, i12]
  refine ⟨vi_of e1v (by omega) (by omega), ?_⟩
  refine S.hP 0 v3 v2 _ x14 Z I L _ w bd f1 (by rw [z0]; omega) (by omega) (by omega) (fun r Z' I' L' w' bd' f' cp' er => ?_)
  rw [z0, e3v, e2v, t14, S.l50.1] at er
  intro x25 e25
  have p0 := S.bP 0 to fr (to - fr - 1) ld
  have rg := CST_rng S.bP (ld := ld) h3
  exact ⟨(to - fr - 1).toNat + 1, c_mcost_L29 S w f1 v1 v2 v3 x14 fr to (to - fr - 1) e1v e2v e3v t14 hf ht _ (by omega) hQ (to - fr - 1).toNat _ r x25 _ (fr + 1) Z' I' L' (Nat.le_refl _) er (by rw [e25]; exact i_add e2v z1 (by omega) (by omega)) (by omega) (by omega) (by omega) rfl w' bd' f' cp'⟩
theorem c_meffort_L8 {B : Nat × Nat} {T : Nat} {Z0 Z : jZ} {I0 I : jI} {L : jL} {v0 u1 u2 u11 u12 u13 t37 t38 pi lp n : Nat} {ld cl : Int} {vow : Int32} {MN : Nat → Int32} {PR : Int → Int → Int → Int → Int → Int} {H G : Int → Int} (S : SMd B T Z0 I0 v0 u1 u2 u11 u12 u13 t37 t38 pi lp n ld cl vow MN PR H G) (f1 : FR Wm Z0 I0 Z I) (v1 v2 v3 : Int32) (fr to : Int) (e1v : v1.toInt = (pi : Int)) (e2v : v2.toInt = fr) (e3v : v3.toInt = to) (hf : -1 ≤ fr) (hft : fr < to) (htn : to < (n : Int)) (h3 : to - fr ≤ 3) {Q : Int32 → jI → jL → Prop}
    (hQ : ∀ (r : Int32), r.toInt = EFT H G fr to ld → Q r I L) :
    ∀ (k m : Nat) (v4 v5 : Int32) (a s : Int), k + 1 ≤ m → v4.toInt = a → v5.toInt = s → 0 ≤ a → fr < s → s + (k : Int) = to + 1 → a + HSm H k s = HSm H (to - fr).toNat (fr + 1) → f_X12_effortOf_L8 Z Q m v0 v1 v2 v3 v4 v5 I L := by
  have z1 : (1 : Int32).toInt = 1 := rfl
  have z5 : (5 : Int32).toInt = 5 := rfl
  have z9 : (9 : Int32).toInt = 9 := rfl
  have z10 : (10 : Int32).toInt = 10 := rfl
  have n24 := S.n24
  have pi6 := S.pi6
  have q1 : v1.toNatClampNeg = pi := by have := i_nat e1v (by omega); omega
  have tot := HSm_rng S.bH (to - fr).toNat (fr + 1)
  have rg := EFT_rng S.bH S.bG h3 hft S.l50.2
  obtain ⟨x, ex, k1, -⟩ := sh_f S.w0.1 S.kv (j := 1) (k := 14) (m := 24) rfl
  cases S.h1.symm.trans ex
  obtain ⟨x, ex, k2, -⟩ := sh_f S.w0.1 S.kv (j := 2) (k := 14) (m := 24) rfl
  cases S.h2.symm.trans ex
  obtain ⟨x, ex, k12, -⟩ := sh_f S.w0.1 S.kv (j := 12) (k := 14) (m := 6) rfl
  cases S.h12.symm.trans ex
  obtain ⟨a1, i1, -⟩ := kpA (m := 0) S.kv f1 S.h1 k1 rfl (by decide) (by decide)
  obtain ⟨a2, i2, -⟩ := kpA (m := 0) S.kv f1 S.h2 k2 rfl (by decide) (by decide)
  obtain ⟨a12, i12, -⟩ := kpA (m := 0) S.kv f1 S.h12 k12 rfl (by decide) (by decide)
  intro k
  induction k with
  | zero =>
    intro m v4 v5 a s hm e4v e5v ha hs hk hx
    obtain ⟨m', rfl⟩ : ∃ m', m = m' + 1 := ⟨m - 1, by omega⟩
    have hx : a + 0 = HSm H (to - fr).toNat (fr + 1) := hx
    unfold f_X12_effortOf_L8
    refine ⟨fun _ => ?_, fun c => absurd ((i_lt e3v e5v).mpr (by omega)) c⟩
    intro b h; cases a12.symm.trans h
    refine ⟨vi_of e1v (by omega) (by omega), ?_⟩
    intro b h; cases a2.symm.trans h
    refine ⟨vi_of e3v (by omega) (by omega), ?_⟩
    rw [q1, i12, i2]
    have n3 := i_nat e3v (by omega)
    have g := S.hG v3.toNatClampNeg (by omega)
    rw [n3] at g
    refine hQ _ ?_
    have el := S.l50.1
    have bl := S.l50.2
    have mm := EFT_mul (S := a) (by omega) bl
    have gg := S.bG to
    have t1 := i_mul e4v (i_add z10 el (by omega) (by omega)) (by omega) (by omega)
    have t2 := i_div t1 z10 (by omega) (by omega)
    have t3 := i_sub (i_add t2 z9 (by omega) (by omega)) g (by omega) (by omega)
    have t4 := i_mul z5 (i_sub (i_sub e3v e2v (by omega) (by omega)) z1 (by omega) (by omega)) (by omega) (by omega)
    rw [i_add t3 t4 (by omega) (by omega)]
    unfold EFT
    rw [← hx, Int.add_zero]
    omega
  | succ k ih =>
    intro m v4 v5 a s hm e4v e5v ha hs hk hx
    obtain ⟨m', rfl⟩ : ∃ m', m = m' + 1 := ⟨m - 1, by omega⟩
    have hx : a + (H s + HSm H k (s + 1)) = HSm H (to - fr).toNat (fr + 1) := hx
    have bh := S.bH s
    have br := HSm_rng S.bH k (s + 1)
    unfold f_X12_effortOf_L8
    refine ⟨fun c => absurd ((i_lt e3v e5v).mp c) (by omega), fun _ => ?_⟩
    intro b h; cases a1.symm.trans h
    rw [i1]
    have n5 := i_nat e5v (by omega)
    have g := S.hH v5.toNatClampNeg (by omega)
    rw [n5] at g
    refine ⟨vi_of e5v (by omega) (by omega), ?_⟩
    intro x1 ex1 x2 ex2
    exact ih m' x1 x2 (a + H s) (s + 1) (by omega) (by rw [ex1]; exact i_add e4v g (by omega) (by omega)) (by rw [ex2]; exact i_add e5v z1 (by omega) (by omega)) (by omega) (by omega) (by omega) (by omega)
/-- moves laid: those from places below q, and those from q of less than far -/
def MPD (I : jI) (t37 t38 lp n : Nat) (op : Nat → Prop) (C E : Nat → Nat → Int) (q far : Nat) : Prop := ∀ q' f : Nat, q' ≤ n → 1 ≤ f → f ≤ 3 → (q' < q ∨ (q' = q ∧ f < far)) → (alu lp n op q' f → (I t37 (3 * q' + f - 1)).toInt = C (q' + f) f ∧ (I t38 (3 * q' + f - 1)).toInt = E (q' + f) f) ∧ (¬ alu lp n op q' f → (I t37 (3 * q' + f - 1)).toInt = 1000000000)
set_option maxHeartbeats 4000000 in
theorem c_mlay_L12 {B : Nat × Nat} {T : Nat} {Z0 : jZ} {I0 : jI} {v0 u1 u2 u11 u12 u13 t37 t38 pi lp n : Nat} {ld cl : Int} {vow : Int32} {MN : Nat → Int32} {PR : Int → Int → Int → Int → Int → Int} {H G : Int → Int} (S : SMd B T Z0 I0 v0 u1 u2 u11 u12 u13 t37 t38 pi lp n ld cl vow MN PR H G) (v1 v2 : Int32) (q : Nat) (hq : q ≤ n) (e1v : v1.toInt = (pi : Int)) (e2v : v2.toInt = (q : Int) - 1) {K2 : Nat → Int32 → Int32 → jZ → jI → jL → Prop} {Q : jZ → jI → jL → Prop}
    (hk : ∀ (x : Int32) (Z' : jZ) (I' : jI) (L' : jL), x.toInt = (q : Int) → WD Z' I' → BUD B Z' T → FR Wm Z0 I0 Z' I' → CP Z0 Z' → MPD I' t37 t38 lp n (opF vow MN cl) (CCp PR ld) (EEp H G ld) (q + 1) 1 → K2 v0 v1 x Z' I' L') :
    ∀ (k far : Nat) (v3 : Int32) (Z : jZ) (I : jI) (L : jL), 1 ≤ far → far ≤ 4 → 5 ≤ k + far → v3.toInt = (far : Int) → WD Z I → BUD B Z T → FR Wm Z0 I0 Z I → CP Z0 Z → MPD I t37 t38 lp n (opF vow MN cl) (CCp PR ld) (EEp H G ld) q far → f_X12_layMoves_L12 B K2 Q k v0 v1 v2 v3 Z I L := by
  have z1 : (1 : Int32).toInt = 1 := rfl
  have z3 : (3 : Int32).toInt = 3 := rfl
  have zF : (1000000000 : Int32).toInt = 1000000000 := rfl
  have n24 := S.n24
  have pi6 := S.pi6
  have lp3 := S.lp3
  have sub : ∀ p ∈ Ws_X12_lawOf, p ∈ Wm := by decide
  have q1 : v1.toNatClampNeg = pi := by have := i_nat e1v (by omega); omega
  obtain ⟨x, ex, k37, l37⟩ := sh_f S.w0.1 S.kv (j := 37) (k := 14) (m := 75) rfl
  cases S.h37.symm.trans ex
  obtain ⟨x, ex, k38, l38⟩ := sh_f S.w0.1 S.kv (j := 38) (k := 14) (m := 75) rfl
  cases S.h38.symm.trans ex
  obtain ⟨x, ex, k11, -⟩ := sh_f S.w0.1 S.kv (j := 11) (k := 14) (m := 6) rfl
  cases S.h11.symm.trans ex
  obtain ⟨x, ex, k13, -⟩ := sh_f S.w0.1 S.kv (j := 13) (k := 14) (m := 6) rfl
  cases S.h13.symm.trans ex
  have n78 : t37 ≠ t38 := fun q9 => by
    subst q9
    exact absurd (S.w0.2.1.2.2 v0 12 37 v0 12 38 t37 S.kv S.kv S.h37 S.h38 rfl rfl).2 (by decide)
  have n07 : v0 ≠ t37 := ks_ne S.kv k37 (by decide)
  have n08 : v0 ≠ t38 := ks_ne S.kv k38 (by decide)
  intro k
  induction k with
  | zero => intro far v3 Z I L h1 h4 hk5; omega
  | succ k ih =>
    intro far v3 Z I L h1 h4 hk5 e3v w bd f cp hm
    have kv1 : jk Z v0 12 := (f.1 v0 12 S.kv).1
    have g37 : jr Z v0 37 = some t37 := (f.2.1 v0 12 37 S.kv (by decide) (by decide)).trans S.h37
    have g38 : jr Z v0 38 = some t38 := (f.2.1 v0 12 38 S.kv (by decide) (by decide)).trans S.h38
    have kk37 : jk Z t37 14 := (f.1 t37 14 k37).1
    have kk38 : jk Z t38 14 := (f.1 t38 14 k38).1
    unfold f_X12_layMoves_L12
    refine ⟨fun c x3 e3 => ?_, fun c => ?_⟩
    · have c := (i_lt z3 e3v).mp c
      have e4 : far = 4 := by omega
      rw [e4] at hm
      refine hk x3 Z I L (by rw [e3]; exact (i_add e2v z1 (by omega) (by omega)).trans (by omega)) w bd f cp (fun q' f' a1 a2 a3 a4 => hm q' f' a1 a2 a3 (by omega))
    have c := (not_congr (i_lt z3 e3v)).mp c
    intro x4 e4 x5 e5
    have ta : (v2 + (1 : Int32)).toInt = (q : Int) := (i_add e2v z1 (by omega) (by omega)).trans (by omega)
    have t4 : x4.toInt = 3 * (q : Int) + (far : Int) - 1 := by
      rw [e4]
      exact i_sub (i_add (i_mul z3 ta (by omega) (by omega)) e3v (by omega) (by omega)) z1 (by omega) (by omega)
    have n4 : x4.toNatClampNeg = 3 * q + far - 1 := by have := i_nat t4 (by omega); omega
    have vi4 : vp_in x4 75 := vi_of t4 (by omega) (by omega)
    have t5 : x5.toInt = ((q + far - 1 : Nat) : Int) := by
      rw [e5]
      exact (i_add e2v e3v (by omega) (by omega)).trans (by omega)
    rw [n4]
    intro b h; cases g37.symm.trans h
    refine ⟨vi4, fun I8 e8 => ?_⟩
    have w8 : WD Z I8 := by rw [e8]; exact WD_putA w 12 37 kv1 g37 kk37 rfl rfl (by decide) trivial
    have f8 : FR Wm Z0 I0 Z I8 := by
      refine FR.trans S.w0.1 S.w0.2.1 f ?_
      rw [e8]
      exact FR_upA w.2.1 kv1 g37 kk37 rfl rfl (by decide)
    have nx : ∀ x : Int32, x = v3 + 1 → x.toInt = ((far + 1 : Nat) : Int) := fun x ex => by
      rw [ex]
      exact (i_add e3v z1 (by omega) (by omega)).trans (by omega)
    -- a move that isn't there
    have skip : ∀ (Z' : jZ) (I' : jI) (L' : jL), ¬ alu lp n (opF vow MN cl) q far → WD Z' I' → BUD B Z' T → FR Wm Z0 I0 Z' I' → CP Z0 Z' → I' t37 = I8 t37 → I' t38 = I8 t38 → f_X12_layMoves_b122 B K2 (f_X12_layMoves_L12 B K2 Q k) Q v0 v1 v2 v3 Z' I' L' := fun Z' I' L' hn w' bd' f' cp' a7 a8 => by
      unfold f_X12_layMoves_b122
      intro x ex
      refine ih (far + 1) x Z' I' L' (by omega) (by omega) (by omega) (nx x ex) w' bd' f' cp' (fun q' f2 b1 b2 b3 b4 => ?_)
      rw [a7, a8, e8, jpI_ne n78.symm]
      by_cases c9 : q' = q ∧ f2 = far
      · rw [c9.1, c9.2]
        exact ⟨fun ha => absurd ha hn, fun _ => by rw [jpI_at]; exact zF⟩
      · rw [jpI_off (by omega)]
        exact hm q' f2 b1 b2 b3 (by omega)
    obtain ⟨a11, i11, -⟩ := kpA (m := 0) S.kv f8 S.h11 k11 rfl (by decide) (by decide)
    obtain ⟨a13, i13, -⟩ := kpA (m := 0) S.kv f8 S.h13 k13 rfl (by decide) (by decide)
    have a0 : (I8 v0 0).toInt = (n : Int) := by rw [f8.2.2.1 v0 12 0 S.kv (by decide) (by decide)]; exact S.h0
    have a39 : (I8 v0 39).toInt = cl := by rw [f8.2.2.1 v0 12 39 S.kv (by decide) (by decide)]; exact S.sh
    intro b h; cases a11.symm.trans h
    rw [q1, i11]
    refine ⟨vi_of e1v (by omega) (by omega), fun c2 => skip Z I8 L (fun ha => ?_) w8 bd f8 cp rfl rfl, fun c2 => ⟨fun c3 => skip Z I8 L (fun ha => ?_) w8 bd f8 cp rfl rfl, fun c3 => ⟨fun c4 => skip Z I8 L (fun ha => ?_) w8 bd f8 cp rfl rfl, fun c4 => ?_⟩⟩⟩
    · have c2 := (i_lt lp3.1 e3v).mp c2
      have := ha.2.1
      omega
    · have c3 := (i_le a0 t5).mp c3
      have := ha.2.2.1
      omega
    · have c4 := (i_eq t5 a39).mp c4
      rcases ha.2.2.2 with o | o
      · omega
      · exact o.2.1 (by omega)
    have c2 := (not_congr (i_lt lp3.1 e3v)).mp c2
    have c3 := (not_congr (i_le a0 t5)).mp c3
    have c4 := (not_congr (i_eq t5 a39)).mp c4
    intro b h; cases a13.symm.trans h
    refine ⟨vi_of e1v (by omega) (by omega), ?_⟩
    rw [i13, S.vw]
    refine S.hM x5 (q + far - 1) Z I8 L _ w8 f8 t5 (by omega) ?_
    unfold f_X12_has
    refine ⟨fun c5 => ⟨fun _ => ?_, fun c6 => absurd rfl c6⟩, fun c5 => ⟨fun c6 => absurd c6 (by decide), fun _ => skip Z I8 L (fun ha => ?_) w8 bd f8 cp rfl rfl⟩⟩
    · have hop : opF vow MN cl (q + far) := Or.inr ⟨by omega, by omega, (i_and1).resolve_right c5⟩
      have ha : alu lp n (opF vow MN cl) q far := ⟨h1, by omega, by omega, hop⟩
      intro b h; cases g37.symm.trans h
      have f3 : 1 ≤ far ∧ far ≤ 3 := ⟨h1, by omega⟩
      have hpq : (((q + far : Nat) : Int) - (far : Int) - 1) = (q : Int) - 1 := by omega
      have hpt : (((q + far : Nat) : Int) - 1) = ((q + far - 1 : Nat) : Int) := by omega
      refine r_X12_costOf_f S w8 bd f8 v1 v2 x5 _ _ e1v e2v t5 (by omega) (by omega) (by omega) (by omega) (fun r38 Z33 I34 L35 w34 bd33 f34 cp33 er => ?_)
      have er : r38.toInt = CCp PR ld (q + far) far := by
        rw [er]
        unfold CCp
        rw [if_pos f3, hpq, hpt]
      have fa : FR Wm Z0 I0 Z33 I34 := FR.trans S.w0.1 S.w0.2.1 f8 (f34.mono sub)
      have kv3 : jk Z33 v0 12 := (fa.1 v0 12 S.kv).1
      have b37 : jr Z33 v0 37 = some t37 := (fa.2.1 v0 12 37 S.kv (by decide) (by decide)).trans S.h37
      have b38 : jr Z33 v0 38 = some t38 := (fa.2.1 v0 12 38 S.kv (by decide) (by decide)).trans S.h38
      have r37 : jk Z33 t37 14 := (fa.1 t37 14 k37).1
      have r38' : jk Z33 t38 14 := (fa.1 t38 14 k38).1
      have o37 : I34 t37 = I8 t37 := f34.2.2.2 v0 12 37 t37 kv1 g37 (by rw [kk37.2]; rfl) rfl (by decide)
      have o38 : I34 t38 = I8 t38 := f34.2.2.2 v0 12 38 t38 kv1 g38 (by rw [kk38.2]; rfl) rfl (by decide)
      refine ⟨vi4, fun I43 e43 => ?_⟩
      have w43 : WD Z33 I43 := by rw [e43]; exact WD_putA w34 12 37 kv3 b37 r37 rfl rfl (by decide) trivial
      have f43 : FR Wm Z0 I0 Z33 I43 := by
        refine FR.trans S.w0.1 S.w0.2.1 fa ?_
        rw [e43]
        exact FR_upA w34.2.1 kv3 b37 r37 rfl rfl (by decide)
      intro b h; cases b38.symm.trans h
      unfold f_X12_effortOf
      intro x10 e10
      refine ⟨((((q + far - 1 : Nat) : Int)) - ((q : Int) - 1)).toNat + 1, c_meffort_L8 S f43 v1 v2 x5 _ _ e1v e2v t5 (by omega) (by omega) (by omega) (by omega) (fun r51 er51 => ?_) _ _ 0 x10 0 ((q : Int) - 1 + 1) (Nat.le_refl _) rfl (by rw [e10]; exact i_add e2v z1 (by omega) (by omega)) (Int.le_refl _) (by omega) (by omega) (Int.zero_add _)⟩
      have er51 : r51.toInt = EEp H G ld (q + far) far := by
        rw [er51]
        unfold EEp
        rw [if_pos f3, hpq, hpt]
      refine ⟨vi4, fun I53 e53 => ?_⟩
      have w53 : WD Z33 I53 := by rw [e53]; exact WD_putA w43 12 38 kv3 b38 r38' rfl rfl (by decide) trivial
      have f53 : FR Wm Z0 I0 Z33 I53 := by
        refine FR.trans S.w0.1 S.w0.2.1 f43 ?_
        rw [e53]
        exact FR_upA w43.2.1 kv3 b38 r38' rfl rfl (by decide)
      unfold f_X12_layMoves_b122
      intro x ex
      refine ih (far + 1) x Z33 I53 L35 (by omega) (by omega) (by omega) (nx x ex) w53 bd33 f53 (CP.trans f.1 cp cp33) (fun q' f2 b1 b2 b3 b4 => ?_)
      rw [e53, jpI_ne n78, e43]
      by_cases c9 : q' = q ∧ f2 = far
      · rw [c9.1, c9.2, jpI_at, jpI_at]
        exact ⟨fun _ => ⟨er, er51⟩, fun hn => absurd ha hn⟩
      · rw [jpI_off (by omega), jpI_off (by omega), jpI_ne n78.symm, o37, o38, e8, jpI_off (by omega), jpI_ne n78.symm]
        exact hm q' f2 b1 b2 b3 (by omega)
    · rcases ha.2.2.2 with o | o
      · omega
      · have h9 := o.2.2
        rw [c5] at h9
        exact absurd h9 (by decide)
theorem c_mlay_L2 {B : Nat × Nat} {T : Nat} {Z0 : jZ} {I0 : jI} {v0 u1 u2 u11 u12 u13 t37 t38 pi lp n : Nat} {ld cl : Int} {vow : Int32} {MN : Nat → Int32} {PR : Int → Int → Int → Int → Int → Int} {H G : Int → Int} (S : SMd B T Z0 I0 v0 u1 u2 u11 u12 u13 t37 t38 pi lp n ld cl vow MN PR H G) (v1 : Int32) (e1v : v1.toInt = (pi : Int)) {Q : jZ → jI → jL → Prop}
    (hQ : ∀ (Z' : jZ) (I' : jI) (L' : jL), WD Z' I' → BUD B Z' T → FR Wm Z0 I0 Z' I' → CP Z0 Z' → MVm Z' I' v0 t37 t38 lp n (opF vow MN cl) (CCp PR ld) (EEp H G ld) → Q Z' I' L') :
    ∀ (k q : Nat) (v2 : Int32) (Z : jZ) (I : jI) (L : jL), q ≤ n + 1 → n + 2 ≤ k + q → v2.toInt = (q : Int) - 1 → WD Z I → BUD B Z T → FR Wm Z0 I0 Z I → CP Z0 Z → MPD I t37 t38 lp n (opF vow MN cl) (CCp PR ld) (EEp H G ld) q 1 → f_X12_layMoves_L2 B Q k v0 v1 v2 Z I L := by
  intro k
  induction k with
  | zero => intro q v2 Z I L h1 h2; omega
  | succ k ih =>
    intro q v2 Z I L h1 h2 e2v w bd f cp hm
    have a0 : (I v0 0).toInt = (n : Int) := by rw [f.2.2.1 v0 12 0 S.kv (by decide) (by decide)]; exact S.h0
    unfold f_X12_layMoves_L2
    refine ⟨fun c => ?_, fun c => ?_⟩
    · have c := (i_le a0 e2v).mp c
      exact hQ Z I L w bd f cp ⟨⟨(f.2.1 v0 12 37 S.kv (by decide) (by decide)).trans S.h37, (f.2.1 v0 12 38 S.kv (by decide) (by decide)).trans S.h38⟩, a0, fun q' far b1 b2 b3 => hm q' far b1 b2 b3 (Or.inl (by omega))⟩
    · have c := (not_congr (i_le a0 e2v)).mp c
      exact ⟨5, c_mlay_L12 S v1 v2 q (by omega) e1v e2v (fun x Z' I' L' ex w' bd' f' cp' hm' => ih (q + 1) x Z' I' L' (by omega) (by omega) (by omega) w' bd' f' cp' hm') 5 1 1 Z I L (Nat.le_refl _) (by omega) (by omega) rfl w bd f cp hm⟩
theorem r_X12_layMoves {B : Nat × Nat} {T : Nat} {Z0 : jZ} {I0 : jI} {L : jL} {v0 u1 u2 u11 u12 u13 t37 t38 pi lp n : Nat} {ld cl : Int} {vow : Int32} {MN : Nat → Int32} {PR : Int → Int → Int → Int → Int → Int} {H G : Int → Int} (S : SMd B T Z0 I0 v0 u1 u2 u11 u12 u13 t37 t38 pi lp n ld cl vow MN PR H G) (bd : BUD B Z0 T) (v1 : Int32) (e1v : v1.toInt = (pi : Int)) {Q : jZ → jI → jL → Prop}
    (hQ : ∀ (Z' : jZ) (I' : jI) (L' : jL), WD Z' I' → BUD B Z' T → FR Wm Z0 I0 Z' I' → CP Z0 Z' → MVm Z' I' v0 t37 t38 lp n (opF vow MN cl) (CCp PR ld) (EEp H G ld) → Q Z' I' L') : f_X12_layMoves B v0 v1 Z0 I0 L Q := by
  unfold f_X12_layMoves
  exact ⟨n + 2, c_mlay_L2 S v1 e1v hQ (n + 2) 0 (-1) Z0 I0 L (Nat.zero_le _) (Nat.le_refl _) (by decide) S.w0 bd FR.rf CP.rf (fun q' f a1 a2 a3 a4 => by omega)⟩
/-! ===== the reference's cheapest climb ===== -/
theorem m12_ne {Z : jZ} {I : jI} {a i j b c : Nat} (w : WD Z I) (k : jk Z a 12) (hi : jr Z a i = some b) (hj : jr Z a j = some c) (n : i ≠ j) (i23 : i ≠ 23) (j23 : j ≠ 23) : b ≠ c := fun q => by
  subst q
  exact n (w.2.1.2.2 a 12 i a 12 j b k k hi hj (jsr12 i23) (jsr12 j23)).2
set_option maxHeartbeats 2000000 in
theorem r_X12_findClimb {B : Nat × Nat} {T : Nat} {Z0 : jZ} {I0 : jI} {L : jL} {v0 u1 u2 u11 u12 u13 t37 t38 pi lp n : Nat} {ld cl : Int} {vow : Int32} {MN : Nat → Int32} {PR : Int → Int → Int → Int → Int → Int} {H G : Int → Int} (S : SMd B T Z0 I0 v0 u1 u2 u11 u12 u13 t37 t38 pi lp n ld cl vow MN PR H G) (bd : BUD B Z0 T) (v1 : Int32) (e1v : v1.toInt = (pi : Int)) (t9 t10 : Nat) (h9 : jr Z0 v0 9 = some t9) (h10 : jr Z0 v0 10 = some t10) (KM : Nat) (hKM : KM ≤ 999) (eKM : (I0 t9 pi).toInt = (KM : Int)) (P : Int) (eP : (I0 t10 pi).toInt = P) {Q : Int32 → jZ → jI → jL → Prop}
    (hQ : ∀ (r : Int32) (Z' : jZ) (I' : jI) (L' : jL) (t44 : Nat), jr Z' v0 44 = some t44 → CLR lp n (opF vow MN cl) (CCp PR ld) (EEp H G ld) (KM : Int) P I' v0 t44 r → Q r Z' I' L') : f_X12_findClimb B v0 v1 Z0 I0 L Q := by
  have pi6 := S.pi6
  have q1 : v1.toNatClampNeg = pi := by have := i_nat e1v (by omega); omega
  obtain ⟨x, ex, k9, -⟩ := sh_f S.w0.1 S.kv (j := 9) (k := 14) (m := 6) rfl
  cases h9.symm.trans ex
  obtain ⟨x, ex, k10, -⟩ := sh_f S.w0.1 S.kv (j := 10) (k := 14) (m := 6) rfl
  cases h10.symm.trans ex
  unfold f_X12_findClimb
  refine r_X12_layMoves S bd v1 e1v (fun Z1 I1 L1 w1 bd1 f1 cp1 hM => ?_)
  have kv1 : jk Z1 v0 12 := (f1.1 v0 12 S.kv).1
  obtain ⟨a9, i9, b9⟩ := kpA (m := 0) S.kv f1 h9 k9 rfl (by decide) (by decide)
  obtain ⟨a10, i10, b10⟩ := kpA (m := 0) S.kv f1 h10 k10 rfl (by decide) (by decide)
  obtain ⟨t40, h40, k40, -⟩ := sh_f w1.1 kv1 (j := 40) (k := 14) (m := 25000) rfl
  obtain ⟨t44, h44, k44, -⟩ := sh_f w1.1 kv1 (j := 44) (k := 14) (m := 24) rfl
  have h37 := hM.1.1
  have h38 := hM.1.2
  obtain ⟨x, ex, k37, -⟩ := sh_f w1.1 kv1 (j := 37) (k := 14) (m := 75) rfl
  cases h37.symm.trans ex
  obtain ⟨x, ex, k38, -⟩ := sh_f w1.1 kv1 (j := 38) (k := 14) (m := 75) rfl
  cases h38.symm.trans ex
  have n4037 := m12_ne w1 kv1 h40 h37 (by decide) (by decide) (by decide)
  have n4038 := m12_ne w1 kv1 h40 h38 (by decide) (by decide) (by decide)
  have n4437 := m12_ne w1 kv1 h44 h37 (by decide) (by decide) (by decide)
  have n4438 := m12_ne w1 kv1 h44 h38 (by decide) (by decide) (by decide)
  have n4440 := m12_ne w1 kv1 h44 h40 (by decide) (by decide) (by decide)
  have n409 := m12_ne w1 kv1 a9 h40 (by decide) (by decide) (by decide)
  have n4010 := m12_ne w1 kv1 a10 h40 (by decide) (by decide) (by decide)
  have v37 : t37 ≠ v0 := (ks_ne kv1 k37 (by decide)).symm
  have v38 : t38 ≠ v0 := (ks_ne kv1 k38 (by decide)).symm
  have v40 : t40 ≠ v0 := (ks_ne kv1 k40 (by decide)).symm
  have v44 : t44 ≠ v0 := (ks_ne kv1 k44 (by decide)).symm
  have hC := CCp_rng S.bP (ld := ld)
  have hE := EEp_rng S.bH S.bG S.l50.2
  intro b h; cases a9.symm.trans h
  rw [q1, i9]
  refine ⟨vi_of e1v (by omega) (by omega), ?_⟩
  refine r_X12_findByEffort w1 v0 kv1 t37 t38 t40 lp n _ _ _ hM h40 ⟨v40, n4037, n4038⟩ S.lp3.2 S.n24 hC hE KM hKM _ eKM (fun I2 hM2 hT hx => ?_)
  refine ⟨KM + 2, fc_L19 v0 t9 t10 t37 t38 t40 t44 lp n _ _ _ hM2 a9 a10 h40 h44 ⟨v44, n4437, n4438, n4440, v37, v38, v40⟩ S.lp3.2 S.n24 hC hE v1 pi e1v pi6 KM hKM (by rw [hx t9 n409, i9]; exact eKM) P (by rw [hx t10 n4010, i10]; exact eP) hT (fun r I' hr _ _ => hQ r Z1 I' L1 t44 h44 hr) (KM + 2) 0 (-1) 0 (Nat.le_refl _) (Nat.zero_le _) rfl (show (-1 : Int32).toInt = -1 by decide)⟩
end
section
/-! ===== LAWS told: what both sides hold ===== -/
theorem lwR_cong {f g : Nat → Int32} {s : Int} (h : ∀ i : Nat, (i : Int) < s → f i = g i) : lwR f s = lwR g s := by
  unfold lwR
  rw [GS_cong (lim := min s 40) (s := s) (by omega) h]
theorem lwC_cong {f g : Nat → Int32} {s : Int} (h : ∀ i : Nat, (i : Int) < s → f i = g i) : lwC f s = lwC g s := by
  unfold lwC
  rw [lwR_cong h]
/-- the letters named -/
def nm1 (m : Int32) (x : Int) : Int32 := if x < 1000 then m ||| (0 : Int32) else if 2000 ≤ x then m ||| (0 : Int32) else m ||| ((1 : Int32) <<< ((Int32.ofInt x - (1000 : Int32)) &&& 31))
def nmd (c : List Int) : Int32 := c.foldl nm1 0
theorem take_nm {c : List Int} {i : Nat} {x : Int} (h : c[i]? = some x) : nmd (c.take (i + 1)) = nm1 (nmd (c.take i)) x := by
  unfold nmd
  rw [List.take_succ, h, List.foldl_append]
  rfl
/-- what a LAW of the class holds: its numbers, the letters that it names -/
def LWc (I : jI) (a uC : Nat) (c : List Int) : Prop := (I a 3).toInt = (c.length : Int) ∧ (∀ i : Nat, i < c.length → c[i]? = some (I uC i).toInt) ∧ I a 4 = nmd c
set_option maxHeartbeats 2000000 in
theorem r_X3_read_L122 {Z : jZ} {I0 : jI} (w0 : WD Z I0) (v0 : Nat) (k0 : jk Z v0 3) (uC : Nat) (hC : jr Z v0 0 = some uC) (c : List Int) (hc : (I0 v0 3).toInt = (c.length : Int)) (h40 : c.length ≤ 40) (hv : ∀ i : Nat, i < c.length → c[i]? = some (I0 uC i).toInt) {Q : Int32 → jI → jL → Prop} (hQ : ∀ (I' : jI) (L' : jL), WD Z I' → FR [(3, 4)] Z I0 Z I' → (∀ a, a ≠ v0 → I' a = I0 a) → LWc I' v0 uC c → Q 0 I' L') :
    ∀ (n p : Nat) (v2 : Int32) (I : jI) (L : jL), WD Z I → FR [(3, 4)] Z I0 Z I → (∀ a, a ≠ v0 → I a = I0 a) → I v0 3 = I0 v0 3 → v2.toInt = (p : Int) → p ≤ c.length → I v0 4 = nmd (c.take p) → 41 ≤ n + p → fs_X3_read_L122 Z Q n v0 v2 I L := by
  obtain ⟨x, ex, kC, lC⟩ := sh_f w0.1 k0 (j := 0) (k := 14) (m := 40) rfl
  cases hC.symm.trans ex
  have nC : uC ≠ v0 := ks_ne kC k0 (by decide)
  intro n
  induction n with
  | zero => intro p v2 I L w f fo e3 e2 hp hn hm; omega
  | succ n ih =>
    intro p v2 I L w f fo e3 e2 hp hn hm
    have es : (I v0 3).toInt = (c.length : Int) := by rw [e3]; exact hc
    unfold fs_X3_read_L122
    refine ⟨fun q => ?_, fun q => ?_⟩
    · have q := (i_le es e2).mp q
      have ep : p = c.length := by omega
      rw [ep, List.take_length] at hn
      refine hQ I L w f fo ⟨es, fun i hi => ?_, hn⟩
      rw [fo uC nC]
      exact hv i hi
    have q := (not_congr (i_le es e2)).mp q
    have hp2 : p < c.length := by omega
    have q3 : v2.toNatClampNeg = p := by have := i_nat e2 (by omega); omega
    have vi : vp_in v2 40 := vi_of e2 (by omega) (by omega)
    have hx := hv p hp2
    have te := take_nm hx
    have eu : I uC = I0 uC := fo uC nC
    have nx : ∀ (y : Int32), y = nm1 (nmd (c.take p)) (I0 uC p).toInt → ∀ (s2 : Int32), (I v0 4) ||| s2 = y → fs_X3_read_b175 (fs_X3_read_L122 Z Q n) Z Q v0 v2 v0 (I v0 4) s2 I L := by
      intro y hy s2 h2
      unfold fs_X3_read_b175
      intro I1 e1 x2 ex2
      have t2 : x2.toInt = ((p + 1 : Nat) : Int) := by rw [ex2]; exact (i_add e2 (show (1 : Int32).toInt = 1 from rfl) (by omega) (by omega)).trans (by omega)
      rw [h2] at e1
      exact ih (p + 1) x2 I1 L (by rw [e1]; exact WD_putF w 3 4 k0 (by decide) (by decide) trivial) (f.trans w0.1 w0.2.1 (by rw [e1]; exact FR_putF k0 (by decide) List.mem_cons_self)) (fun a ha => by rw [e1, jpI_ne ha]; exact fo a ha) (by rw [e1, jpI_o (by decide)]; exact e3) t2 (by omega) (by rw [e1, jpI_at, te, hy]) (by omega)
    intro b4 h4
    cases hC.symm.trans h4
    rw [q3, eu]
    refine ⟨vi, fun g => ?_, fun g => ?_⟩
    · have g := (i_lt rfl (show (1000 : Int32).toInt = 1000 from rfl)).mp g
      unfold fs_X3_read_b174
      refine nx _ rfl 0 ?_
      unfold nm1
      rw [if_pos g, hn]
    have g := (not_congr (i_lt rfl (show (1000 : Int32).toInt = 1000 from rfl))).mp g
    intro b7 h7
    cases hC.symm.trans h7
    rw [eu]
    refine ⟨vi, fun g2 => ?_, fun g2 => ?_⟩
    · have g2 := (i_le (show (2000 : Int32).toInt = 2000 from rfl) rfl).mp g2
      unfold fs_X3_read_b174
      refine nx _ rfl 0 ?_
      unfold nm1
      rw [if_neg g, if_pos g2, hn]
    · have g2 := (not_congr (i_le (show (2000 : Int32).toInt = 2000 from rfl) rfl)).mp g2
      intro b10 h10
      cases hC.symm.trans h10
      rw [eu]
      refine ⟨vi, nx _ rfl _ ?_⟩
      unfold nm1
      rw [if_neg g, if_neg g2, hn, Int32.ofInt_toInt]
theorem ne_m1 {F : Int} (h : ¬ F = -1) : ¬ (-1 - F = 0) := fun q => h (by omega)
def Wq3 : List (Nat × Nat) := [(3, 1), (3, 5), (3, 6), (3, 7), (3, 8)]
set_option maxHeartbeats 4000000 in
theorem s19_X3_read {Z : jZ} {I : jI} {L : jL} (w : WD Z I) (v0 v1 : Nat) (k0 : jk Z v0 3) (k1 : jk Z v1 10) (uC uD : Nat) (hC : jr Z v0 0 = some uC) (hD : jr Z v0 1 = some uD) (uB : Nat) (hB : jr Z v1 0 = some uB) (hb : BY (I uB)) {Q : Int32 → jI → jL → Prop} (hQ : ∀ (r : Int32) (I' : jI) (L' : jL), WD Z I' → FR Ws_X3_read Z I Z I' → (∀ a, a ≠ v0 → a ≠ uC → a ≠ uD → I' a = I a) → r.toInt = lwA (I uB) (I v1 1).toInt → (r.toInt = 0 → LWc I' v0 uC (lwC (I uB) (I v1 1).toInt)) → (r.toInt ≠ 0 → I' v0 3 = I v0 3 ∧ I' v0 4 = I v0 4 ∧ I' uC = I uC) → Q r I' L') : fs_X3_read v0 v1 Z I L Q := by
  obtain ⟨x, ex, kD, lD⟩ := sh_f w.1 k0 (j := 1) (k := 14) (m := 40) rfl
  cases hD.symm.trans ex
  obtain ⟨x, ex, kC, lC⟩ := sh_f w.1 k0 (j := 0) (k := 14) (m := 40) rfl
  cases hC.symm.trans ex
  obtain ⟨x, ex, kB, lB⟩ := sh_f w.1 k1 (j := 0) (k := 13) (m := 80) rfl
  cases hB.symm.trans ex
  have n10 : v1 ≠ v0 := ks_ne k1 k0 (by decide)
  have nB : uB ≠ v0 := ks_ne kB k0 (by decide)
  have nCD : uC ≠ uD := ds_ne w.2.1 k0 hC hD rfl rfl (by decide)
  have nC0 : uC ≠ v0 := ks_ne kC k0 (by decide)
  have nD0 : uD ≠ v0 := ks_ne kD k0 (by decide)
  have sz : 0 ≤ (I v1 1).toInt ∧ (I v1 1).toInt ≤ 80 := w.fld 10 1 k1 (by decide)
  have b77 : ∀ (J : jI) (L1 : jL) (F : Int), WD Z J → FR Wq3 Z I Z J → (∀ a, a ≠ v0 → a ≠ uD → J a = I a) → (J v0 8).toInt = F → -1 ≤ F → F ≤ 1000 → (F = -1 → lwA (I uB) (I v1 1).toInt = 0 ∧ (J v0 5).toInt = ((lwC (I uB) (I v1 1).toInt).length : Int) ∧ ∀ i : Nat, i < (lwC (I uB) (I v1 1).toInt).length → (lwC (I uB) (I v1 1).toInt)[i]? = some (J uD i).toInt) → (F ≠ -1 → lwA (I uB) (I v1 1).toInt = -1 - F) → fs_X3_read_b77 Z Q v0 J L1 := by
    intro J L1 F wJ fJ fo e8 g1 g2 h1 h2
    unfold fs_X3_read_b77
    refine ⟨fun c => ?_, fun c => ?_⟩
    · have c := (i_eq e8 (show (-1 : Int32).toInt = -1 from rfl)).mp c
      obtain ⟨hA, h5, hcs⟩ := h1 c
      obtain ⟨-, h40, -⟩ := lwC_ok sz.1 hA
      intro b13 h13 b14 h14
      cases hD.symm.trans h13
      cases hC.symm.trans h14
      refine ⟨by decide, ?_⟩
      intro I16 e16 I17 e17 I18 e18
      have w16 : WD Z I16 := by rw [e16]; exact WD_cpy wJ 3 0 k0 hC kC rfl rfl (by decide) (fun _ _ _ => trivial)
      have f16 : FR Ws_X3_read Z I Z I16 := (fJ.mono (by decide)).trans w.1 w.2.1 (by rw [e16]; exact FR_upA wJ.2.1 k0 hC kC rfl rfl (by decide))
      have w17 : WD Z I17 := by rw [e17]; exact WD_putF w16 3 3 k0 (by decide) (by decide) (w16.fld 3 5 k0 (by decide))
      have f17 : FR Ws_X3_read Z I Z I17 := f16.trans w.1 w.2.1 (by rw [e17]; exact FR_putF k0 (by decide) (by decide))
      have w18 : WD Z I18 := by rw [e18]; exact WD_putF w17 3 4 k0 (by decide) (by decide) trivial
      have f18 : FR Ws_X3_read Z I Z I18 := f17.trans w.1 w.2.1 (by rw [e18]; exact FR_putF k0 (by decide) (by decide))
      have y16 : I16 v0 = J v0 := by rw [e16]; exact va_up_ne _ _ nC0.symm
      have yC : ∀ i : Nat, i < 40 → I18 uC i = J uD i := fun i hi => by
        rw [e18, jpI_ne nC0, e17, jpI_ne nC0, e16, va_up_self]
        show (if 0 ≤ i ∧ i < 0 + 40 then J uD (0 + (i - 0)) else J uC i) = _
        rw [if_pos ⟨Nat.zero_le _, by omega⟩, Nat.zero_add, Nat.sub_zero]
      have y3 : (I18 v0 3).toInt = ((lwC (I uB) (I v1 1).toInt).length : Int) := by rw [e18, jpI_o (by decide), e17, jpI_at, y16]; exact h5
      have y4 : I18 v0 4 = 0 := by rw [e18, jpI_at]
      have fo18 : ∀ a, a ≠ v0 → a ≠ uC → a ≠ uD → I18 a = I a := fun a a1 a2 a3 => by
        rw [e18, jpI_ne a1, e17, jpI_ne a1, e16, va_up_ne _ _ a2]
        exact fo a a1 a3
      refine ⟨41, r_X3_read_L122 w18 v0 k0 uC hC _ y3 h40 (fun i hi => by rw [yC i (by omega)]; exact hcs i hi) (fun I' L' w' f' fo' hl => ?_) 41 0 0 I18 L1 w18 FR.rf (fun _ _ => rfl) rfl rfl (Nat.zero_le _) (by rw [List.take_zero, y4]; rfl) (by omega)⟩
      exact hQ 0 I' L' w' (f18.trans w.1 w.2.1 (f'.mono (by decide))) (fun a a1 a2 a3 => (fo' a a1).trans (fo18 a a1 a2 a3)) (by rw [hA]; rfl) (fun _ => hl) (fun q => absurd rfl q)
    · have c := (not_congr (i_eq e8 (show (-1 : Int32).toInt = -1 from rfl))).mp c
      have er : ((-1 : Int32) - (J v0 8)).toInt = -1 - F := i_sub (show (-1 : Int32).toInt = -1 from rfl) e8 (by omega) (by omega)
      refine hQ _ J L1 wJ (fJ.mono (by decide)) (fun a a1 _ a3 => fo a a1 a3) (by rw [h2 c]; exact er) (fun q => absurd (er.symm.trans q) (ne_m1 c)) (fun _ => ⟨?_, ?_, fo uC nC0 nCD⟩)
      · exact fJ.2.2.1 v0 3 3 k0 (by decide) (by decide)
      · exact fJ.2.2.1 v0 3 4 k0 (by decide) (by decide)
  unfold fs_X3_read
  intro I21 e21 I22 e22 I23 e23 I24 e24
  have w21 : WD Z I21 := by rw [e21]; exact WD_putF w 3 5 k0 (by decide) (by decide) (show rg 0 40 _ from ⟨by decide, by decide⟩)
  have f21 : FR Wq3 Z I Z I21 := by rw [e21]; exact FR_putF k0 (by decide) (by decide)
  have w22 : WD Z I22 := by rw [e22]; exact WD_putF w21 3 6 k0 (by decide) (by decide) trivial
  have f22 : FR Wq3 Z I Z I22 := f21.trans w.1 w.2.1 (by rw [e22]; exact FR_putF k0 (by decide) (by decide))
  have w23 : WD Z I23 := by rw [e23]; exact WD_putF w22 3 8 k0 (by decide) (by decide) trivial
  have f23 : FR Wq3 Z I Z I23 := f22.trans w.1 w.2.1 (by rw [e23]; exact FR_putF k0 (by decide) (by decide))
  have w24 : WD Z I24 := by rw [e24]; exact WD_putF w23 3 7 k0 (by decide) (by decide) trivial
  have f24 : FR Wq3 Z I Z I24 := f23.trans w.1 w.2.1 (by rw [e24]; exact FR_putF k0 (by decide) (by decide))
  have fo24 : ∀ a, a ≠ v0 → I24 a = I a := fun a ha => by rw [e24, jpI_ne ha, e23, jpI_ne ha, e22, jpI_ne ha, e21, jpI_ne ha]
  have y1 : I24 v1 = I v1 := fo24 v1 n10
  have y3 : I23 v1 1 = I v1 1 := by rw [e23, jpI_ne n10, e22, jpI_ne n10, e21, jpI_ne n10]
  have yB : I24 uB = I uB := fo24 uB nB
  have t7 : (I24 v0 7).toInt = min (I v1 1).toInt 40 := by
    rw [e24, jpI_at, y3]
    by_cases c : (40 : Int32) < I v1 1
    · rw [if_pos c]
      have c := (i_lt (show (40 : Int32).toInt = 40 from rfl) (y := I v1 1) rfl).mp c
      show (40 : Int) = _
      omega
    · rw [if_neg c]
      have c := (not_congr (i_lt (show (40 : Int32).toInt = 40 from rfl) (y := I v1 1) rfl)).mp c
      omega
  have t8 : (I24 v0 8).toInt = -1 := by rw [e24, jpI_o (by decide), e23, jpI_at]; rfl
  have t6 : (I24 v0 6).toInt = 0 := by rw [e24, jpI_o (by decide), e23, jpI_o (by decide), e22, jpI_at]; rfl
  have t5 : (I24 v0 5).toInt = 0 := by rw [e24, jpI_o (by decide), e23, jpI_o (by decide), e22, jpI_o (by decide), e21, jpI_at]; rfl
  have ts : (I24 v1 1).toInt = (I v1 1).toInt := by rw [y1]
  refine ⟨fun c => ?_, fun c => ?_⟩
  · have c := (i_le ts (show (0 : Int32).toInt = 0 from rfl)).mp c
    refine b77 I24 L (-1) w24 f24 (fun a a1 _ => fo24 a a1) t8 (by omega) (by omega) (fun _ => ?_) (fun q => absurd rfl q)
    unfold lwA lwC
    rw [if_pos c, if_pos c]
    exact ⟨rfl, t5, fun i hi => absurd hi (Nat.not_lt_zero i)⟩
  have c := (not_congr (i_le ts (show (0 : Int32).toInt = 0 from rfl))).mp c
  obtain ⟨hp, o1, o2, o3, o4⟩ := lwR_is (f := I uB) (s := (I v1 1).toInt) sz.1
  have t : TLw Z I24 v0 v1 uB uD (min (I v1 1).toInt 40) := ⟨w24, k0, k1, hB, kB, ⟨by omega, by rw [ts]; omega, by rw [ts]; exact sz.2, by omega⟩, by rw [yB]; exact hb, hD, kD⟩
  have s0 : LSw Z I24 v0 uD (min (I v1 1).toInt 40) I24 0 (-1) [] := ⟨w24, FR.rf, t6, t8, t7, fun _ => ⟨t5, fun i hi => absurd hi (Nat.not_lt_zero i)⟩, fun _ _ _ => rfl⟩
  refine (LC_all t 300).1 30 0 0 (lwR (I uB) (I v1 1).toInt) [] 0 I24 L _ (by rw [yB]; exact hp) s0 (by omega) (by omega) (by show ((0 : Nat) : Int) ≤ 0; omega) rfl (by omega) (by omega) (fun I28 s28 => ?_)
  have f28 : FR Wq3 Z I Z I28 := f24.trans w.1 w.2.1 (s28.2.1.mono (by decide))
  have fo28 : ∀ a, a ≠ v0 → a ≠ uD → I28 a = I a := fun a a1 a2 => (s28.2.2.2.2.2.2 a a1 a2).trans (fo24 a a1)
  have u1 : (I28 v1 1).toInt = (I v1 1).toInt := by rw [s28.2.1.2.2.1 v1 10 1 k1 (by decide) (by decide)]; exact ts
  have b69 : (lwR (I uB) (I v1 1).toInt).2.1 = -1 → (lwR (I uB) (I v1 1).toInt).1 < (I v1 1).toInt → fs_X3_read_b69 Z Q v0 I28 L := by
    intro q1 q2
    unfold fs_X3_read_b69
    intro I20 e20
    have w20 : WD Z I20 := by rw [e20]; exact WD_putF s28.1 3 8 k0 (by decide) (by decide) trivial
    have f20 : FR Wq3 Z I Z I20 := f28.trans w.1 w.2.1 (by rw [e20]; exact FR_putF k0 (by decide) (by decide))
    refine b77 I20 L (lwR (I uB) (I v1 1).toInt).1 w20 f20 (fun a a1 a2 => by rw [e20, jpI_ne a1]; exact fo28 a a1 a2) (by rw [e20, jpI_at]; exact s28.2.2.1) (by omega) (by omega) (fun q => by omega) (fun _ => ?_)
    unfold lwA
    rw [if_neg (by omega), if_pos q1, if_pos q2]
  refine ⟨fun q => ?_, fun q => ⟨fun q2 => ?_, fun q2 => ⟨fun q3 => ?_, fun q3 => ?_⟩⟩⟩
  · have q := (not_congr (i_eq s28.2.2.2.1 (show (-1 : Int32).toInt = -1 from rfl))).mp q
    refine b77 I28 L _ s28.1 f28 fo28 s28.2.2.2.1 (by omega) (by omega) (fun g => absurd g q) (fun _ => ?_)
    unfold lwA
    rw [if_neg (by omega), if_neg q]
  · have q := (i_eq s28.2.2.2.1 (show (-1 : Int32).toInt = -1 from rfl)).mp q
    have q2 := (i_lt s28.2.2.1 s28.2.2.2.2.1).mp q2
    exact b69 q (by omega)
  · have q := (i_eq s28.2.2.2.1 (show (-1 : Int32).toInt = -1 from rfl)).mp q
    have q2 := (not_congr (i_lt s28.2.2.1 s28.2.2.2.2.1)).mp q2
    have q3 := (i_le u1 (show (40 : Int32).toInt = 40 from rfl)).mp q3
    refine b77 I28 L _ s28.1 f28 fo28 s28.2.2.2.1 (by omega) (by omega) (fun _ => ?_) (fun g => absurd q g)
    have hcd := s28.2.2.2.2.2.1 q
    rw [List.nil_append] at hcd
    refine ⟨?_, ?_⟩
    · unfold lwA
      rw [if_neg (by omega), if_pos q, if_neg (by omega)]
    · unfold lwC
      rw [if_neg (by omega)]
      exact hcd
  · have q := (i_eq s28.2.2.2.1 (show (-1 : Int32).toInt = -1 from rfl)).mp q
    have q3 := (not_congr (i_le u1 (show (40 : Int32).toInt = 40 from rfl))).mp q3
    exact b69 q (by omega)
/-- the laws of the class before and after law(i) -/
def LWX (Z : jZ) (I I' : jI) (v0 : Nat) (ok : Int → Prop) (c : List Int) : Prop := ∀ (j uF uL uC : Nat), (j = 6 ∨ j = 7) → jr Z v0 2 = some uF → jr Z uF j = some uL → jr Z uL 0 = some uC → (ok ((j : Int) - 6) → LWc I' uL uC c) ∧ (¬ ok ((j : Int) - 6) → I' uL 3 = I uL 3 ∧ I' uL 4 = I uL 4 ∧ I' uC = I uC)
set_option maxHeartbeats 4000000 in
theorem s19_X11_law {Z : jZ} {I : jI} {L : jL} (w : WD Z I) (v0 : Nat) (v1 : Int32) (kv0 : jk Z v0 11) (uT : Nat) (huT : jr Z v0 0 = some uT) (uB : Nat) (huB : jr Z uT 0 = some uB) (hb : BY (I uB)) {Q : Int32 → jI → jL → Prop} (hQ : ∀ (r : Int32) (I' : jI) (L' : jL), WD Z I' → FR Ws_X11_law Z I Z I' → (I' uT 1).toInt = 0 → r.toInt = lwB v1.toInt (lwA (I uB) (I uT 1).toInt) → LWX Z I I' v0 (fun i => r.toInt = 0 ∧ v1.toInt = i) (lwC (I uB) (I uT 1).toInt) → Q r I' L') : fs_X11_law v0 v1 Z I L Q := by
  obtain ⟨x, ex, kT⟩ := sh_o w.1 kv0 (j := 0) (k := 10) rfl
  cases huT.symm.trans ex
  have fin : ∀ (r : Int32) (J : jI) (L1 : jL), WD Z J → FR Ws_X11_law Z I Z J → r.toInt = lwB v1.toInt (lwA (I uB) (I uT 1).toInt) → LWX Z I J v0 (fun i => r.toInt = 0 ∧ v1.toInt = i) (lwC (I uB) (I uT 1).toInt) → fs_X11_law_b45 Z Q v0 r J L1 := by
    intro r J L1 wJ fJ er hx
    unfold fs_X11_law_b45
    intro b1 h1
    cases huT.symm.trans h1
    unfold f_X10_clear
    intro I1 e1
    refine hQ r I1 L1 ?_ ?_ ?_ er (fun j uF uL uC hj hF hL hC => ?_)
    · rw [e1]; exact WD_putF wJ 10 1 kT (by decide) (by decide) (show rg 0 80 _ from ⟨by decide, by decide⟩)
    · exact fJ.trans w.1 w.2.1 (by rw [e1]; exact FR_putF kT (by decide) (by decide))
    · rw [e1, jpI_at]; rfl
    · obtain ⟨x, ex, kF⟩ := sh_o w.1 kv0 (j := 2) (k := 8) rfl
      cases hF.symm.trans ex
      have kL : jk Z uL 3 := by
        rcases hj with rfl | rfl
        · obtain ⟨x, ex, k⟩ := sh_o w.1 kF (j := 6) (k := 3) rfl
          cases hL.symm.trans ex; exact k
        · obtain ⟨x, ex, k⟩ := sh_o w.1 kF (j := 7) (k := 3) rfl
          cases hL.symm.trans ex; exact k
      obtain ⟨x, ex, kC, -⟩ := sh_f w.1 kL (j := 0) (k := 14) (m := 40) rfl
      cases hC.symm.trans ex
      have g1 : I1 uL = J uL := by rw [e1]; exact jpI_ne (ks_ne kL kT (by decide))
      have g2 : I1 uC = J uC := by rw [e1]; exact jpI_ne (ks_ne kC kT (by decide))
      have g := hx j uF uL uC hj hF hL hC
      unfold LWc at g ⊢
      rw [g1, g2]
      exact g
  have rd : ∀ (b10 b11 b12 j : Nat), (j = 6 ∨ j = 7) → v1.toInt = (j : Int) - 6 → jr Z v0 2 = some b10 → jr Z b10 j = some b11 → jr Z v0 0 = some b12 → fs_X3_read b11 b12 Z I L (fun r I1 L1 => fs_X11_law_b45 Z Q v0 r I1 L1) := by
    intro b10 b11 b12 j hj hv h10 h11 h12
    cases huT.symm.trans h12
    obtain ⟨x, ex, kF⟩ := sh_o w.1 kv0 (j := 2) (k := 8) rfl
    cases h10.symm.trans ex
    have kl : ∀ (i uL : Nat), (i = 6 ∨ i = 7) → jr Z b10 i = some uL → jk Z uL 3 := fun i uL hi hL => by
      rcases hi with rfl | rfl
      · obtain ⟨x, ex, k⟩ := sh_o w.1 kF (j := 6) (k := 3) rfl
        cases hL.symm.trans ex; exact k
      · obtain ⟨x, ex, k⟩ := sh_o w.1 kF (j := 7) (k := 3) rfl
        cases hL.symm.trans ex; exact k
    have k3 := kl j b11 hj h11
    obtain ⟨uC, hC, kC, -⟩ := sh_f w.1 k3 (j := 0) (k := 14) (m := 40) rfl
    obtain ⟨uD, hD, kD, -⟩ := sh_f w.1 k3 (j := 1) (k := 14) (m := 40) rfl
    refine s19_X3_read w b11 uT k3 kT uC uD hC hD uB huB hb (fun r I1 L1 w1 f1 fo er hl hn => fin r I1 L1 w1 (f1.mono (by decide)) ?_ (fun i uF uL uC' hi hF hL hC' => ?_))
    · rw [er]
      unfold lwB
      rw [if_pos (by omega)]
    · cases h10.symm.trans hF
      by_cases c : i = j
      · subst c
        cases h11.symm.trans hL
        cases hC.symm.trans hC'
        exact ⟨fun g => hl g.1, fun g => hn (fun q => g ⟨q, hv⟩)⟩
      · refine ⟨fun g => absurd (hv.symm.trans g.2) (by omega), fun _ => ?_⟩
        have kL := kl i uL hi hL
        have nL : uL ≠ b11 := fun q => by
          subst q
          exact c (w.2.1.2.2 b10 8 i b10 8 j uL kF kF hL h11 (by rcases hi with rfl | rfl <;> rfl) (by rcases hj with rfl | rfl <;> rfl)).2
        obtain ⟨x, ex, kC', -⟩ := sh_f w.1 kL (j := 0) (k := 14) (m := 40) rfl
        cases hC'.symm.trans ex
        have n1 : uC' ≠ uC := fun q => by
          subst q
          exact nL (w.2.1.2.2 uL 3 0 b11 3 0 uC' kL k3 hC' hC rfl rfl).1
        have n2 : uC' ≠ uD := fun q => by
          subst q
          exact absurd (w.2.1.2.2 uL 3 0 b11 3 1 uC' kL k3 hC' hD rfl rfl).2 (by decide)
        have e1 : I1 uL = I uL := fo uL nL (ks_ne kL kC (by decide)) (ks_ne kL kD (by decide))
        have e2 : I1 uC' = I uC' := fo uC' (ks_ne kC' k3 (by decide)) n1 n2
        rw [e1, e2]
        exact ⟨rfl, rfl, rfl⟩
  unfold fs_X11_law
  refine ⟨fun c => ⟨fun c1 => ?_, fun c1 b10 h10 b11 h11 b12 h12 => ?_⟩, fun c b10 h10 b11 h11 b12 h12 => ?_⟩
  · have c := (not_congr (i_eq (x := v1) (y := 0) rfl (show (0 : Int32).toInt = 0 from rfl))).mp c
    have c1 := (not_congr (i_eq (x := v1) (y := 1) rfl (show (1 : Int32).toInt = 1 from rfl))).mp c1
    refine fin _ I L w FR.rf ?_ (fun j uF uL uC hj _ _ _ => ⟨fun g => absurd g.1 (by decide), fun _ => ⟨rfl, rfl, rfl⟩⟩)
    unfold lwB
    rw [if_neg (by omega)]
    rfl
  · have c1 := (i_eq (x := v1) (y := 1) rfl (show (1 : Int32).toInt = 1 from rfl)).mp c1
    exact rd b10 b11 b12 7 (Or.inr rfl) (by rw [c1]; rfl) h10 h11 h12
  · have c := (i_eq (x := v1) (y := 0) rfl (show (0 : Int32).toInt = 0 from rfl)).mp c
    exact rd b10 b11 b12 6 (Or.inl rfl) (by rw [c]; rfl) h10 h11 h12
/-! ===== LAWS told: the reference; both sides ===== -/
theorem nar_id {x : Int32} (h : -128 ≤ x.toInt ∧ x.toInt ≤ 127) : vp_nar .byte x = x := by
  have e : vp_nar .byte x = x.toInt8.toInt32 := rfl
  rw [e]
  refine (i_eq rfl rfl).mpr ?_
  rw [Int8.toInt_toInt32, Int32.toInt_toInt8, Int.bmod_def]
  split <;> omega
theorem okA19 {i : Nat} (hi : i < 2) (k : Nat) (v : Int32) : okA 19 i k v := by
  have h : i = 0 ∨ i = 1 := by omega
  rcases h with rfl | rfl <;> trivial
theorem jsr19 {i : Nat} (hi : i < 2) : jsr 19 i = false := by
  have h : i = 0 ∨ i = 1 := by omega
  rcases h with rfl | rfl <;> rfl
theorem mem19 {i : Nat} (hi : i < 2) : (19, i) ∈ Ws_X12_law := by
  have h : i = 0 ∨ i = 1 := by omega
  rcases h with rfl | rfl <;> decide
set_option maxHeartbeats 2000000 in
theorem r_X12_law_L85 {B : Nat × Nat} {Z : jZ} {I0 : jI} (w0 : WD Z I0) (v0 : Nat) (kv0 : jk Z v0 12) (t30 t29 uX uM : Nat) (h30 : jr Z v0 30 = some t30) (h29 : jr Z v0 29 = some t29) (i : Nat) (hi : i < 2) (hX : jr Z t29 i = some uX) (hM : jr Z v0 18 = some uM) (v1 : Int32) (e1 : v1.toInt = (i : Int)) (v2 : Int32) (n : Nat) (e2 : v2.toInt = (n : Int)) (h40 : n ≤ 40) (hb : ∀ k : Nat, k < n → -128 ≤ (I0 uM k).toInt ∧ (I0 uM k).toInt ≤ 127) {Q : Int32 → jZ → jI → jL → Prop} (hQ : ∀ (I' : jI) (L' : jL), WD Z I' → FR Ws_X12_law Z I0 Z I' → (∀ a, a ≠ uX → a ≠ t30 → I' a = I0 a) → (∀ k : Nat, k < n → I' uX k = I0 uM k) → (∀ k, k ≠ i → I' t30 k = I0 t30 k) → (I' t30 i).toInt = (n : Int) → Q 0 Z I' L') :
    ∀ (m p : Nat) (v3 : Int32) (I : jI) (L : jL), WD Z I → FR Ws_X12_law Z I0 Z I → (∀ a, a ≠ uX → I a = I0 a) → (∀ k : Nat, k < p → I uX k = I0 uM k) → v3.toInt = (p : Int) → p ≤ n → n + 1 ≤ m + p → f_X12_law_L85 B Q m v0 v1 v2 v3 Z I L := by
  obtain ⟨x, ex, k30, l30⟩ := sh_f w0.1 kv0 (j := 30) (k := 14) (m := 2) rfl
  cases h30.symm.trans ex
  obtain ⟨x, ex, k29, l29⟩ := sh_f w0.1 kv0 (j := 29) (k := 19) (m := 2) rfl
  cases h29.symm.trans ex
  obtain ⟨x, ex, kM, lM⟩ := sh_f w0.1 kv0 (j := 18) (k := 13) (m := 80) rfl
  cases hM.symm.trans ex
  obtain ⟨x, ex, kX, lX⟩ := w0.1.2.2.2 t29 k29 i (by rw [l29]; exact hi)
  cases hX.symm.trans ex
  have q1 : v1.toNatClampNeg = i := by have := i_nat e1 (by omega); omega
  have vi1 : vp_in v1 2 := vi_of e1 (by omega) (by omega)
  have nMX : uM ≠ uX := fun q => by
    subst q
    have := (w0.2.1.2.2 v0 12 18 t29 19 i uM kv0 k29 hM hX rfl (jsr19 hi)).1
    exact ks_ne kv0 k29 (by decide) this
  have n30X : t30 ≠ uX := ks_ne k30 kX (by decide)
  intro m
  induction m with
  | zero => intro p v3 I L w f fo fx e3 hp hm; omega
  | succ m ih =>
    intro p v3 I L w f fo fx e3 hp hm
    unfold f_X12_law_L85
    refine ⟨fun c => ?_, fun c => ?_⟩
    · have c := (i_le e2 e3).mp c
      have ep : p = n := by omega
      intro b2 h2
      cases h30.symm.trans h2
      refine ⟨vi1, fun I4 e4 => ?_⟩
      rw [q1] at e4
      refine hQ I4 L ?_ ?_ (fun a a1 a2 => by rw [e4, jpI_ne a2]; exact fo a a1) (fun k hk => by rw [e4, jpI_ne n30X.symm]; exact fx k (by omega)) (fun k hk => by rw [e4, jpI_off hk, fo t30 n30X]) (by rw [e4, jpI_at]; exact e2)
      · rw [e4]; exact WD_putA w 12 30 kv0 h30 k30 rfl rfl (by decide) (show rg 0 40 _ from ⟨by omega, by omega⟩)
      · exact f.trans w0.1 w0.2.1 (by rw [e4]; exact FR_upA w.2.1 kv0 h30 k30 rfl rfl (by decide))
    · have c := (not_congr (i_le e2 e3)).mp c
      intro b5 h5
      cases h29.symm.trans h5
      refine ⟨vi1, ?_⟩
      intro b7 h7
      rw [q1] at h7
      cases hX.symm.trans h7
      intro b8 h8
      cases hM.symm.trans h8
      have q3 : v3.toNatClampNeg = p := by have := i_nat e3 (by omega); omega
      refine ⟨vi_of e3 (by omega) (by omega), vi_of e3 (by omega) (by omega), fun I11 e11 x12 e12 => ?_⟩
      rw [q3, fo uM nMX, nar_id (hb p (by omega))] at e11
      refine ih (p + 1) x12 I11 L ?_ ?_ (fun a ha => by rw [e11, jpI_ne ha]; exact fo a ha) (fun k hk => ?_) (by rw [e12]; exact (i_add e3 (show (1 : Int32).toInt = 1 from rfl) (by omega) (by omega)).trans (by omega)) (by omega) (by omega)
      · rw [e11]; exact WD_putA w 19 i k29 hX kX rfl (jsr19 hi) (by decide) (okA19 hi _ _)
      · exact f.trans w0.1 w0.2.1 (by rw [e11]; exact FR_upA w.2.1 k29 hX kX rfl (jsr19 hi) (mem19 hi))
      · rw [e11]
        by_cases q : k = p
        · rw [q, jpI_at]
        · rw [jpI_off q]; exact fx k (by omega)
def Wq12 : List (Nat × Nat) := [(12, 19), (12, 22), (12, 24), (12, 25), (12, 26), (12, 27), (12, 31)]
theorem not19 {i : Nat} : (19, i) ∉ Wq12 := fun h => by
  unfold Wq12 at h
  simp at h
/-- the laws of the reference before and after law(i) -/
def LMX (Z : jZ) (I I' : jI) (v0 uM : Nat) (ok : Int → Prop) (s : Int) : Prop := ∀ (t30 t29 i uX : Nat), jr Z v0 30 = some t30 → jr Z v0 29 = some t29 → i < 2 → jr Z t29 i = some uX → (ok (i : Int) → (I' t30 i).toInt = s ∧ ∀ k : Nat, (k : Int) < s → I' uX k = I uM k) ∧ (¬ ok (i : Int) → I' t30 i = I t30 i ∧ I' uX = I uX)
theorem LMX_k {Z Z' : jZ} {I J : jI} {v0 : Nat} (w : WD Z I) (kv0 : jk Z v0 12) (f : FR Wq12 Z I Z' J) {t30 t29 i uX : Nat} (h30 : jr Z v0 30 = some t30) (h29 : jr Z v0 29 = some t29) (hi : i < 2) (hX : jr Z t29 i = some uX) : J t30 = I t30 ∧ J uX = I uX := by
  obtain ⟨x, ex, k30, l30⟩ := sh_f w.1 kv0 (j := 30) (k := 14) (m := 2) rfl
  cases h30.symm.trans ex
  obtain ⟨x, ex, k29, l29⟩ := sh_f w.1 kv0 (j := 29) (k := 19) (m := 2) rfl
  cases h29.symm.trans ex
  obtain ⟨x, ex, kX, lX⟩ := w.1.2.2.2 t29 k29 i (by rw [l29]; exact hi)
  cases hX.symm.trans ex
  exact ⟨f.2.2.2 v0 12 30 t30 kv0 h30 (by rw [k30.2]; rfl) rfl (by decide), f.2.2.2 t29 19 i uX k29 hX (by rw [kX.2]; rfl) (jsr19 hi) not19⟩
theorem LMX_no {Z Z' : jZ} {I J : jI} {v0 uM : Nat} {ok : Int → Prop} {s : Int} (w : WD Z I) (kv0 : jk Z v0 12) (f : FR Wq12 Z I Z' J) (hn : ∀ i, ¬ ok i) : LMX Z I J v0 uM ok s := by
  intro t30 t29 i uX h30 h29 hi hX
  obtain ⟨a, b⟩ := LMX_k w kv0 f h30 h29 hi hX
  exact ⟨fun q => absurd q (hn _), fun _ => ⟨by rw [a], b⟩⟩
set_option maxHeartbeats 4000000 in
theorem s19_X12_law {B : Nat × Nat} {T : Nat} {Z : jZ} {I : jI} {L : jL} (w : WD Z I) (bd : BUD B Z T) (v0 : Nat) (v1 : Int32) (kv0 : jk Z v0 12) (uM : Nat) (huM : jr Z v0 18 = some uM) (hb : ∀ k : Nat, (k : Int) < (I v0 19).toInt → -128 ≤ (I uM k).toInt ∧ (I uM k).toInt ≤ 127) {Q : Int32 → jZ → jI → jL → Prop} (hQ : ∀ (r : Int32) (Z' : jZ) (I' : jI) (L' : jL), WD Z' I' → BUD B Z' T → FR Ws_X12_law Z I Z' I' → CP Z Z' → (I' v0 19).toInt = 0 → r.toInt = lwB v1.toInt (lwA (I uM) (I v0 19).toInt) → LMX Z I I' v0 uM (fun i => r.toInt = 0 ∧ v1.toInt = i) (I v0 19).toInt → Q r Z' I' L') : f_X12_law B v0 v1 Z I L Q := by
  obtain ⟨b9, e9, kuM, l9⟩ := sh_f w.1 kv0 (j := 18) (k := 13) (m := 80) rfl
  cases huM.symm.trans e9
  have hne : uM ≠ v0 := ks_ne kuM kv0 (by decide)
  have sz : 0 ≤ (I v0 19).toInt ∧ (I v0 19).toInt ≤ 80 := w.fld 12 19 kv0 (by decide)
  unfold f_X12_law
  intro I1 e1 x23 e23 b eb
  cases huM.symm.trans eb
  have w1 : WD Z I1 := by rw [e1]; exact WD_putF w 12 22 kv0 (by decide) (by decide) trivial
  have f1 : FR Wq12 Z I Z I1 := by rw [e1]; exact FR_putF kv0 (by decide) (by decide)
  have z1 : I1 v0 19 = I v0 19 := by rw [e1, jpI_o (by decide)]
  have b1 : I1 uM = I uM := by rw [e1, jpI_ne hne]
  have ex : x23.toInt = (I v0 19).toInt := by rw [e23, z1]
  refine s_X12_begin w1 bd v0 uM x23 40 kv0 kuM v0 12 18 kv0 huM (fun Z2 I2 L2 w2 bd2 f2 cp2 p2 => ?_)
  obtain ⟨r2, p24, p25, p26, p27⟩ := p2
  intro I3 e3
  have k2 : jk Z2 v0 12 := (f2.1 _ _ kv0).1
  have kM2 : jk Z2 uM 13 := (f2.1 _ _ kuM).1
  have lM2 : jlen Z2 uM = 80 := (f2.1 _ _ kuM).2.trans l9
  have h2M : jr Z2 v0 18 = some uM := (f2.2.1 v0 12 18 kv0 (by decide) (by decide)).trans huM
  have b2 : I2 uM = I1 uM := f2.2.2.2 v0 12 18 uM kv0 huM (by rw [kuM.2]; rfl) rfl (by decide)
  have w3 : WD Z2 I3 := by rw [e3]; exact WD_putF w2 12 19 k2 (by decide) (by decide) (show rg 0 80 _ from ⟨by decide, by decide⟩)
  have f2' : FR Wq12 Z I Z2 I2 := f1.trans w.1 w.2.1 (f2.mono (by decide))
  have f3 : FR Wq12 Z I Z2 I3 := f2'.trans w.1 w.2.1 (by rw [e3]; exact FR_putF k2 (by decide) (by decide))
  have b3 : I3 uM = I uM := by rw [e3, jpI_ne hne, b2, b1]
  have z3 : (I3 v0 19).toInt = 0 := by rw [e3, jpI_at]; rfl
  refine s_X12_in w3 v1 0 1 (fun r39 p39 => ?_)
  rw [show (0 : Int32).toInt = 0 from rfl, show (1 : Int32).toInt = 1 from rfl] at p39
  refine ⟨fun c => ?ok, fun c => ?no⟩
  case no =>
    have c := (i_eq (x := r39) (y := 0) rfl (show (0 : Int32).toInt = 0 from rfl)).mp c
    refine hQ _ Z2 I3 L2 w3 bd2 (f3.mono (by decide)) cp2 z3 ?_ (LMX_no w kv0 f3 (fun i q => absurd q.1 (by decide)))
    unfold lwB
    rw [if_neg (by omega)]
    rfl
  have c := (not_congr (i_eq (x := r39) (y := 0) rfl (show (0 : Int32).toInt = 0 from rfl))).mp c
  have hv : v1.toInt = 0 ∨ v1.toInt = 1 := by omega
  have hv2 : 0 ≤ v1.toInt ∧ v1.toInt ≤ 1 := by omega
  have hB : lwB v1.toInt (lwA (I uM) (I v0 19).toInt) = lwA (I uM) (I v0 19).toInt := by unfold lwB; rw [if_pos hv]
  rw [hB] at hQ
  intro I41 e41
  have w41 : WD Z2 I41 := by rw [e41]; exact WD_putF w3 12 31 k2 (by decide) (by decide) trivial
  have f41 : FR Wq12 Z I Z2 I41 := f3.trans w.1 w.2.1 (by rw [e41]; exact FR_putF k2 (by decide) (by decide))
  have b41 : I41 uM = I uM := by rw [e41, jpI_ne hne]; exact b3
  have z41 : (I41 v0 19).toInt = 0 := by rw [e41, jpI_o (by decide)]; exact z3
  have a41 : I41 v0 31 = (-1 : Int32) := by rw [e41, jpI_at]
  have b83 : ∀ (J : jI) (L1 : jL), WD Z2 J → FR Wq12 Z I Z2 J → (J v0 19).toInt = 0 → (I v0 19).toInt ≤ 40 → lwA (I uM) (I v0 19).toInt = 0 → f_X12_law_b83 B Q v0 v1 x23 Z2 J L1 := by
    intro J L1 wJ fJ z19 h40 hA
    obtain ⟨t30, h30, k30, l30⟩ := sh_f w.1 kv0 (j := 30) (k := 14) (m := 2) rfl
    obtain ⟨t29, h29, k29, l29⟩ := sh_f w.1 kv0 (j := 29) (k := 19) (m := 2) rfl
    obtain ⟨i, ei, hi⟩ : ∃ i : Nat, v1.toInt = (i : Int) ∧ i < 2 := ⟨v1.toInt.toNat, by omega, by omega⟩
    obtain ⟨uX, hX, kX, lX⟩ := w.1.2.2.2 t29 k29 i (by rw [l29]; exact hi)
    have g30 : jr Z2 v0 30 = some t30 := (fJ.2.1 v0 12 30 kv0 (by decide) (by decide)).trans h30
    have g29 : jr Z2 v0 29 = some t29 := (fJ.2.1 v0 12 29 kv0 (by decide) (by decide)).trans h29
    have gX : jr Z2 t29 i = some uX := (fJ.2.1 t29 19 i k29 (fun q => absurd q.1 (by decide)) (fun q => absurd q.1 (by decide))).trans hX
    have jM : J uM = I uM := fJ.2.2.2 v0 12 18 uM kv0 huM (by rw [kuM.2]; rfl) rfl (by decide)
    have n0X : v0 ≠ uX := ks_ne kv0 kX (by decide)
    have n030 : v0 ≠ t30 := ks_ne kv0 k30 (by decide)
    unfold f_X12_law_b83
    refine ⟨41, r_X12_law_L85 wJ v0 k2 t30 t29 uX uM g30 g29 i hi gX h2M v1 ei x23 (I v0 19).toInt.toNat (by omega) (by omega) (fun k hk => by rw [jM]; exact hb k (by omega)) (fun I' L' w' f' fo hx hk hs => ?_) 41 0 0 J L1 wJ FR.rf (fun _ _ => rfl) (fun k hk => absurd hk (Nat.not_lt_zero k)) rfl (Nat.zero_le _) (by omega)⟩
    refine hQ 0 Z2 I' L' w' bd2 ((fJ.mono (by decide)).trans w.1 w.2.1 f') cp2 (by rw [fo v0 n0X n030]; exact z19) (by rw [hA]; rfl) (fun a30 a29 j aX q30 q29 hj qX => ?_)
    cases h30.symm.trans q30
    cases h29.symm.trans q29
    obtain ⟨ja, jb⟩ := LMX_k w kv0 fJ h30 h29 hj qX
    by_cases c9 : j = i
    · subst c9
      cases hX.symm.trans qX
      refine ⟨fun _ => ⟨by omega, fun k h9 => ?_⟩, fun q => absurd ⟨rfl, ei⟩ q⟩
      rw [hx k (by omega), jM]
    · refine ⟨fun q => absurd (ei.symm.trans q.2) (by omega), fun _ => ⟨by rw [hk j c9, ja], ?_⟩⟩
      obtain ⟨x, ex9, kY, -⟩ := w.1.2.2.2 t29 k29 j (by rw [l29]; exact hj)
      cases qX.symm.trans ex9
      have nY : aX ≠ uX := fun q => by
        subst q
        exact c9 (w.2.1.2.2 t29 19 j t29 19 i aX k29 k29 qX hX (jsr19 hj) (jsr19 hi)).2
      rw [fo aX nY (ks_ne kY k30 (by decide)), jb]
  refine ⟨fun c2 => ?_, fun c2 => ?_⟩
  · have c2 := (i_le ex (show (0 : Int32).toInt = 0 from rfl)).mp c2
    refine b83 I41 L2 w41 f41 z41 (by omega) ?_
    unfold lwA
    rw [if_pos c2]
  have c2 := (not_congr (i_le ex (show (0 : Int32).toInt = 0 from rfl))).mp c2
  have t : TMl Z2 I41 v0 uM (I v0 19).toInt := ⟨w41, k2, r2, kM2, ⟨sz.1, sz.2, by rw [lM2]; omega⟩, fun I' f => f.2.2.2 v0 12 18 uM k2 h2M (by rw [kM2.2]; rfl) rfl (by decide)⟩
  have s : ML Z2 I41 v0 (I v0 19).toInt I41 0 (-1) := by
    refine ⟨w41, FR.rf, ?_, ?_, ?_, ?_⟩
    · rw [e41, jpI_o (by decide), e3, jpI_o (by decide)]; exact p26
    · rw [e41, jpI_o (by decide), e3, jpI_o (by decide)]; exact p27
    · rw [e41, jpI_o (by decide), e3, jpI_o (by decide), p24]; exact ex
    · rw [e41, jpI_o (by decide), e3, jpI_o (by decide)]; exact p25
  have hl : LTR Z2 I41 v0 (I v0 19).toInt (fun _ => 0) := by
    intro F c I9 L9 a Q9 s9 _ hq
    have e31 : I9 v0 31 = (-1 : Int32) := by rw [s9.2.1.2.2.1 v0 12 31 k2 (by decide) (by decide)]; exact a41
    exact ⟨fun q => absurd e31 q, fun _ => hq I9 L9 s9⟩
  obtain ⟨hp, o1, o2, o3, o4⟩ := lwR_is (f := I uM) (s := (I v0 19).toInt) sz.1
  refine (MC_all t hl 300).1 100 0 0 (lwR (I uM) (I v0 19).toInt) 0 I41 L2 _ (by rw [b41]; exact hp) s (by omega) (by omega) rfl (by omega) (by omega) (fun v I45 L45 s45 _ => ?_)
  have f45 : FR Wq12 Z I Z2 I45 := f41.trans w.1 w.2.1 (s45.2.1.mono (by decide))
  have z45 : (I45 v0 19).toInt = 0 := by rw [s45.2.1.2.2.1 v0 12 19 k2 (by decide) (by decide)]; exact z41
  have bad : ∀ (J : jI) (F : Int), ML Z2 I41 v0 (I v0 19).toInt J (lwR (I uM) (I v0 19).toInt).1 F → F ≠ -1 → 0 ≤ F → F ≤ 1000 → lwA (I uM) (I v0 19).toInt = -1 - F → f_X12_law_b69 B Q v0 v1 x23 Z2 J L45 := by
    intro J F sJ hF g1 g2 hA
    have fJ : FR Wq12 Z I Z2 J := f41.trans w.1 w.2.1 (sJ.2.1.mono (by decide))
    have er : ((-1 : Int32) - (J v0 27)).toInt = -1 - F := i_sub (show (-1 : Int32).toInt = -1 from rfl) sJ.2.2.2.1 (by omega) (by omega)
    unfold f_X12_law_b69
    refine n_fine sJ (fun q => absurd q hF) (fun _ => ⟨fun q => absurd rfl q, fun _ => ?_⟩)
    refine hQ _ Z2 J L45 sJ.1 bd2 (fJ.mono (by decide)) cp2 ?_ ?_ (LMX_no w kv0 fJ (fun i q => absurd (er.symm.trans q.1) (ne_m1 hF)))
    · rw [sJ.2.1.2.2.1 v0 12 19 k2 (by decide) (by decide)]; exact z41
    · rw [hA]
      exact er
  have hlw : ∀ x, (if (I v0 19).toInt ≤ 0 then (0 : Int) else x) = x := fun x => if_neg (by omega)
  by_cases q : (lwR (I uM) (I v0 19).toInt).2.1 = -1
  · refine ⟨fun c3 => ?_, fun c3 => ?_⟩
    · have c3 := (i_le ex s45.2.2.1).mp c3
      rw [q] at s45
      unfold f_X12_law_b69
      refine n_fine s45 (fun _ => ⟨fun _ => ?_, fun q9 => absurd q9 (by decide)⟩) (fun q9 => absurd rfl q9)
      refine b83 I45 L45 s45.1 f45 z45 (by omega) ?_
      unfold lwA
      rw [hlw, if_pos q, if_neg (by omega)]
    · have c3 := (not_congr (i_le ex s45.2.2.1)).mp c3
      rw [q] at s45
      refine n_fault t s45 (fun I9 s9 => bad I9 _ s9 ?_ ?_ ?_ ?_)
      · rw [s45.2.2.1]; omega
      · rw [s45.2.2.1]; omega
      · rw [s45.2.2.1]; omega
      · rw [s45.2.2.1]
        unfold lwA
        rw [hlw, if_pos q, if_pos (by omega)]
  · have hA : lwA (I uM) (I v0 19).toInt = -1 - (lwR (I uM) (I v0 19).toInt).2.1 := by
      unfold lwA
      rw [hlw, if_neg q]
    refine ⟨fun c3 => bad I45 _ s45 q (by omega) (by omega) hA, fun c3 => ?_⟩
    exact n_faultD s45 q (bad I45 _ s45 q (by omega) (by omega) hA)
/-- the LAWS on both sides: the class's numbers are those of the reference's text -/
def LWR (Z : jZ) (I : jI) (uF t30 t29 : Nat) : Prop := ∀ (i uL uC uX : Nat), i < 2 → jr Z uF (6 + i) = some uL → jr Z uL 0 = some uC → jr Z t29 i = some uX → ∃ s : Int, (I t30 i).toInt = s ∧ 0 ≤ s ∧ s ≤ 40 ∧ lwA (I uX) s = 0 ∧ LWc I uL uC (lwC (I uX) s)
theorem LW_kinds {Z : jZ} {I : jI} {uF v2 t29 i uL uC uX : Nat} (w : WD Z I) (kF : jk Z uF 8) (k2 : jk Z v2 12) (h29 : jr Z v2 29 = some t29) (hi : i < 2) (hL : jr Z uF (6 + i) = some uL) (hC : jr Z uL 0 = some uC) (hX : jr Z t29 i = some uX) : jk Z uL 3 ∧ jk Z uC 14 ∧ jk Z t29 19 ∧ jk Z uX 13 := by
  have kL : jk Z uL 3 := by
    have h : i = 0 ∨ i = 1 := by omega
    rcases h with rfl | rfl
    · obtain ⟨x, ex, k⟩ := sh_o w.1 kF (j := 6) (k := 3) rfl
      cases hL.symm.trans ex; exact k
    · obtain ⟨x, ex, k⟩ := sh_o w.1 kF (j := 7) (k := 3) rfl
      cases hL.symm.trans ex; exact k
  obtain ⟨x, ex, kC, -⟩ := sh_f w.1 kL (j := 0) (k := 14) (m := 40) rfl
  cases hC.symm.trans ex
  obtain ⟨x, ex, k29, l29⟩ := sh_f w.1 k2 (j := 29) (k := 19) (m := 2) rfl
  cases h29.symm.trans ex
  obtain ⟨x, ex, kX, -⟩ := w.1.2.2.2 t29 k29 i (by rw [l29]; exact hi)
  cases hX.symm.trans ex
  exact ⟨kL, kC, k29, kX⟩
theorem LW_refs {W : List (Nat × Nat)} {Z Z' : jZ} {I I' : jI} {uF v2 t29 : Nat} (w : WD Z I) (kF : jk Z uF 8) (k2 : jk Z v2 12) (h29 : jr Z v2 29 = some t29) (f : FR W Z I Z' I') {i uL uC uX : Nat} (hi : i < 2) (hL : jr Z' uF (6 + i) = some uL) (hC : jr Z' uL 0 = some uC) (hX : jr Z' t29 i = some uX) : jr Z uF (6 + i) = some uL ∧ jr Z uL 0 = some uC ∧ jr Z t29 i = some uX := by
  have gL := (f.2.1 uF 8 (6 + i) kF (fun q => absurd q.1 (by decide)) (fun q => absurd q.1 (by decide))).symm.trans hL
  have kL : jk Z uL 3 := by
    have h : i = 0 ∨ i = 1 := by omega
    rcases h with rfl | rfl
    · obtain ⟨x, ex, k⟩ := sh_o w.1 kF (j := 6) (k := 3) rfl
      cases gL.symm.trans ex; exact k
    · obtain ⟨x, ex, k⟩ := sh_o w.1 kF (j := 7) (k := 3) rfl
      cases gL.symm.trans ex; exact k
  have gC := (f.2.1 uL 3 0 kL (by decide) (by decide)).symm.trans hC
  obtain ⟨x, ex, k29, l29⟩ := sh_f w.1 k2 (j := 29) (k := 19) (m := 2) rfl
  cases h29.symm.trans ex
  exact ⟨gL, gC, (f.2.1 t29 19 i k29 (fun q => absurd q.1 (by decide)) (fun q => absurd q.1 (by decide))).symm.trans hX⟩
theorem LWc_eq {I I' : jI} {a uC : Nat} {c : List Int} (h : LWc I a uC c) (h3 : I' a 3 = I a 3) (h4 : I' a 4 = I a 4) (hC : I' uC = I uC) : LWc I' a uC c := by
  unfold LWc at h ⊢
  rw [h3, h4, hC]
  exact h
/-- laws stay -/
theorem LWR_fr {W : List (Nat × Nat)} {Z Z' : jZ} {I I' : jI} {uF v2 t30 t29 : Nat} (w : WD Z I) (kF : jk Z uF 8) (k2 : jk Z v2 12) (h30 : jr Z v2 30 = some t30) (h29 : jr Z v2 29 = some t29) (f : FR W Z I Z' I') (n0 : (3, 0) ∉ W) (n3 : (3, 3) ∉ W) (n4 : (3, 4) ∉ W) (n30 : (12, 30) ∉ W) (n9 : (19, 0) ∉ W) (n91 : (19, 1) ∉ W) (h : LWR Z I uF t30 t29) : LWR Z' I' uF t30 t29 := by
  intro i uL uC uX hi hL hC hX
  obtain ⟨hL, hC, hX⟩ := LW_refs w kF k2 h29 f hi hL hC hX
  obtain ⟨kL, kC, k29, kX⟩ := LW_kinds w kF k2 h29 hi hL hC hX
  obtain ⟨s, g1, g2, g3, g4, g5⟩ := h i uL uC uX hi hL hC hX
  obtain ⟨x, ex, k30, l30⟩ := sh_f w.1 k2 (j := 30) (k := 14) (m := 2) rfl
  cases h30.symm.trans ex
  have nX : (19, i) ∉ W := by
    have h : i = 0 ∨ i = 1 := by omega
    rcases h with rfl | rfl
    · exact n9
    · exact n91
  have e30 := f.2.2.2 v2 12 30 t30 k2 h30 (by rw [k30.2]; rfl) rfl n30
  have eX := f.2.2.2 t29 19 i uX k29 hX (by rw [kX.2]; rfl) (jsr19 hi) nX
  refine ⟨s, by rw [e30]; exact g1, g2, g3, by rw [eX]; exact g4, ?_⟩
  rw [eX]
  exact LWc_eq g5 (f.2.2.1 uL 3 3 kL (by decide) n3) (f.2.2.1 uL 3 4 kL (by decide) n4) (f.2.2.2 uL 3 0 uC kL hC (by rw [kC.2]; rfl) rfl n0)
/-- law(i) on both sides -/
theorem LWR_law {Z Z' : jZ} {I I1 I2 : jI} {v1 v2 uF uT uB uM t30 t29 : Nat} {v r1 r2 : Int32} (w : WD Z I) (w1 : WD Z I1) (k1 : jk Z v1 11) (k2 : jk Z v2 12) (hF : jr Z v1 2 = some uF) (kF : jk Z uF 8) (h30 : jr Z v2 30 = some t30) (h29 : jr Z v2 29 = some t29) (f1 : FR Ws_X11_law Z I Z I1) (f2 : FR Ws_X12_law Z I1 Z' I2) (hs : (I uT 1).toInt = (I v2 19).toInt) (hB : ∀ k : Nat, (k : Int) < (I uT 1).toInt → I uB k = I uM k) (eM : I1 uM = I uM) (e19 : I1 v2 19 = I v2 19) (p1 : r1.toInt = lwB v.toInt (lwA (I uB) (I uT 1).toInt)) (p2 : r2.toInt = lwB v.toInt (lwA (I1 uM) (I1 v2 19).toInt)) (g1 : LWX Z I I1 v1 (fun i => r1.toInt = 0 ∧ v.toInt = i) (lwC (I uB) (I uT 1).toInt)) (g2 : LMX Z I1 I2 v2 uM (fun i => r2.toInt = 0 ∧ v.toInt = i) (I1 v2 19).toInt) (h : LWR Z I uF t30 t29) : r1.toInt = r2.toInt ∧ LWR Z' I2 uF t30 t29 := by
  have sz : 0 ≤ (I v2 19).toInt ∧ (I v2 19).toInt ≤ 80 := w.fld 12 19 k2 (by decide)
  rw [eM, e19] at p2
  rw [e19] at g2
  have cA : lwA (I uB) (I uT 1).toInt = lwA (I uM) (I v2 19).toInt := by rw [← hs]; exact lwA_cong hB
  have er : r1.toInt = r2.toInt := by rw [p1, p2, cA]
  refine ⟨er, fun i uL uC uX hi hL hC hX => ?_⟩
  obtain ⟨hL, hC, hX⟩ := LW_refs w1 kF k2 h29 f2 hi hL hC hX
  obtain ⟨kL, kC, k29, kX⟩ := LW_kinds w kF k2 h29 hi hL hC hX
  have hj : 6 + i = 6 ∨ 6 + i = 7 := by omega
  obtain ⟨a1, a2⟩ := g1 (6 + i) uF uL uC hj hF hL hC
  obtain ⟨b1, b2⟩ := g2 t30 t29 i uX h30 h29 hi hX
  have ei : (((6 + i : Nat) : Int) - 6) = (i : Int) := by omega
  rw [ei] at a1 a2
  have c3 := f2.2.2.1 uL 3 3 kL (by decide) (by decide)
  have c4 := f2.2.2.1 uL 3 4 kL (by decide) (by decide)
  have cC := f2.2.2.2 uL 3 0 uC kL hC (by rw [kC.2]; rfl) rfl (by decide)
  by_cases q : r1.toInt = 0 ∧ v.toInt = (i : Int)
  · obtain ⟨b3, b4⟩ := b1 ⟨by omega, q.2⟩
    have hA : lwA (I uM) (I v2 19).toInt = 0 := by
      have e := p2
      unfold lwB at e
      rw [if_pos (by omega)] at e
      omega
    have hk : ∀ k : Nat, (k : Int) < (I v2 19).toInt → I2 uX k = I uM k := fun k h9 => by rw [b4 k h9, eM]
    obtain ⟨-, -, o3⟩ := lwC_ok sz.1 hA
    refine ⟨_, b3, sz.1, ?_, by rw [lwA_cong hk]; exact hA, ?_⟩
    · by_cases z : 0 < (I v2 19).toInt
      · exact (o3 z).2.2
      · omega
    · rw [lwC_cong hk, ← hs, ← lwC_cong hB]
      exact LWc_eq (a1 q) c3 c4 cC
  · obtain ⟨b3, b4⟩ := b2 (fun g => q ⟨by omega, g.2⟩)
    obtain ⟨a3, a4, a5⟩ := a2 q
    obtain ⟨s, z1, z2, z3, z4, z5⟩ := h i uL uC uX hi hL hC hX
    obtain ⟨x, ex, k30, l30⟩ := sh_f w.1 k2 (j := 30) (k := 14) (m := 2) rfl
    cases h30.symm.trans ex
    have d30 : I1 t30 = I t30 := f1.2.2.2 v2 12 30 t30 k2 h30 (by rw [k30.2]; rfl) rfl (by decide)
    have dX : I1 uX = I uX := f1.2.2.2 t29 19 i uX k29 hX (by rw [kX.2]; rfl) (jsr19 hi) (fun q => by unfold Ws_X11_law at q; simp at q)
    refine ⟨s, by rw [b3, d30]; exact z1, z2, z3, by rw [b4, dX]; exact z4, ?_⟩
    rw [b4, dX]
    exact LWc_eq z5 (c3.trans a3) (c4.trans a4) (cC.trans a5)
/-! ===== prices as a function of LAWS, STEPS, who is MAIN, FEUDS: the class ===== -/
def ltrP (a r s w : Nat → Int32) (x : Int → Int → Int32) (st fr lp ld : Int) (j : Nat) : Int32 := if j = 0 then a st.toNat else if j = 1 then r st.toNat else if j = 2 then s st.toNat else if j = 3 then w st.toNat else if j = 4 then x st fr else if j = 5 then Int32.ofInt ld else Int32.ofInt lp
def PRf (c0 c1 : List Int) (a r s w : Nat → Int32) (x : Int → Int → Int32) (lw st fr lp ld : Int) : Int := if (if lw = 0 then c0 else c1).length = 0 then (if lw = 0 ∧ w st.toNat = 0 then (a st.toNat).toInt else 0) else (evT (ev (ltrP a r s w x st fr lp ld) (if lw = 0 then c0 else c1) [])).toInt
theorem evT_rng (st : List Int32) : 0 ≤ (evT st).toInt ∧ (evT st).toInt ≤ 99 := by
  have z0 : (0 : Int32).toInt = 0 := rfl
  have z99 : (99 : Int32).toInt = 99 := rfl
  cases st with
  | nil => exact ⟨Int.le_refl _, by decide⟩
  | cons v t =>
    show 0 ≤ (clp v).toInt ∧ (clp v).toInt ≤ 99
    unfold clp
    by_cases c : v < (99 : Int32)
    · rw [if_pos c]
      have c1 := (i_lt (x := v) rfl z99).mp c
      by_cases d : (0 : Int32) < v
      · rw [if_pos d]
        have d1 := (i_lt (y := v) z0 rfl).mp d
        omega
      · rw [if_neg d, z0]
        omega
    · rw [if_neg c, if_pos (show (0 : Int32) < (99 : Int32) by decide), z99]
      omega
theorem PRf_rng {c0 c1 : List Int} {a r s w : Nat → Int32} {x : Int → Int → Int32} (ha : ∀ k, 0 ≤ (a k).toInt ∧ (a k).toInt ≤ 20) (lw st fr lp ld : Int) : 0 ≤ PRf c0 c1 a r s w x lw st fr lp ld ∧ PRf c0 c1 a r s w x lw st fr lp ld ≤ 99 := by
  unfold PRf
  by_cases h : (if lw = 0 then c0 else c1).length = 0
  · rw [if_pos h]
    by_cases h2 : lw = 0 ∧ w st.toNat = 0
    · rw [if_pos h2]
      have := ha st.toNat
      omega
    · rw [if_neg h2]
      omega
  · rw [if_neg h]
    exact evT_rng _
theorem ev1_cong {lt lt' : Nat → Int32} (h : ∀ j, j < 7 → lt j = lt' j) {x : Int} (hx : okc x) (st : List Int32) : ev1 lt st x = ev1 lt' st x := by
  unfold ev1
  by_cases c : x < 1000
  · rw [if_pos c, if_pos c]
  · rw [if_neg c, if_neg c]
    by_cases c2 : x < 2000
    · have := hx.2.2 (by omega) c2
      rw [if_pos c2, if_pos c2, h _ (by omega)]
    · rw [if_neg c2, if_neg c2]
theorem ev_cong {lt lt' : Nat → Int32} (h : ∀ j, j < 7 → lt j = lt' j) : ∀ (c : List Int) (st : List Int32), (∀ x ∈ c, okc x) → ev lt c st = ev lt' c st := by
  intro c
  induction c with
  | nil => intro st _; rfl
  | cons x c ih =>
    intro st hc
    show ev lt c (ev1 lt st x) = ev lt' c (ev1 lt' st x)
    rw [ev1_cong h (hc x List.mem_cons_self)]
    exact ih _ (fun y hy => hc y (List.mem_cons_of_mem _ hy))
theorem COk_mem {c : List Int} (h : COk c) : ∀ x ∈ c, okc x := fun x hx => by
  obtain ⟨i, hi, e⟩ := List.getElem_of_mem hx
  exact h i x (by rw [List.getElem?_eq_getElem hi, e])
/-- x: whether MAIN is in FEUD with the MAIN of the STEP one comes from, as the class holds it -/
def xLc (mn fe : Nat → Int32) (st fr : Int) : Int32 := if 0 ≤ fr then (if ((fe (mn st.toNat).toNatClampNeg >>> (mn fr.toNat &&& 31)) &&& (1 : Int32)) = 0 then 0 else 1) else 0
/-- the class's stairs: rise, state, asks, widow, shares, mains, feuds, letters -/
def STc (Z : jZ) (v8 u0 u1 u2 u3 u4 u41 u5 u8 : Nat) : Prop := jk Z v8 8 ∧ jr Z v8 0 = some u0 ∧ jr Z v8 1 = some u1 ∧ jr Z v8 2 = some u2 ∧ jr Z v8 3 = some u3 ∧ jr Z v8 4 = some u4 ∧ jr Z u4 1 = some u41 ∧ jr Z v8 5 = some u5 ∧ jr Z v8 8 = some u8
theorem STc_k {Z : jZ} {I : jI} {v8 u0 u1 u2 u3 u4 u41 u5 u8 : Nat} (w : WD Z I) (S : STc Z v8 u0 u1 u2 u3 u4 u41 u5 u8) : jk Z u0 14 ∧ jk Z u1 14 ∧ jk Z u2 14 ∧ jk Z u3 14 ∧ jk Z u4 4 ∧ jk Z u41 14 ∧ jk Z u5 14 ∧ jk Z u8 14 ∧ jlen Z u8 = 7 ∧ u0 ≠ u8 ∧ u1 ≠ u8 ∧ u2 ≠ u8 ∧ u3 ≠ u8 ∧ u41 ≠ u8 ∧ u5 ≠ u8 := by
  obtain ⟨kv, h0, h1, h2, h3, h4, h41, h5, h8⟩ := S
  obtain ⟨x, ex, k0, -⟩ := sh_f w.1 kv (j := 0) (k := 14) (m := 24) rfl
  cases h0.symm.trans ex
  obtain ⟨x, ex, k1, -⟩ := sh_f w.1 kv (j := 1) (k := 14) (m := 24) rfl
  cases h1.symm.trans ex
  obtain ⟨x, ex, k2, -⟩ := sh_f w.1 kv (j := 2) (k := 14) (m := 24) rfl
  cases h2.symm.trans ex
  obtain ⟨x, ex, k3, -⟩ := sh_f w.1 kv (j := 3) (k := 14) (m := 24) rfl
  cases h3.symm.trans ex
  obtain ⟨x, ex, k4⟩ := sh_o w.1 kv (j := 4) (k := 4) rfl
  cases h4.symm.trans ex
  obtain ⟨x, ex, k41, -⟩ := sh_f w.1 k4 (j := 1) (k := 14) (m := 24) rfl
  cases h41.symm.trans ex
  obtain ⟨x, ex, k5, -⟩ := sh_f w.1 kv (j := 5) (k := 14) (m := 8) rfl
  cases h5.symm.trans ex
  obtain ⟨x, ex, k8, l8⟩ := sh_f w.1 kv (j := 8) (k := 14) (m := 7) rfl
  cases h8.symm.trans ex
  have un : ∀ j b, jr Z v8 j = some b → jsr 8 j = false → j ≠ 8 → b ≠ u8 := fun j b hj hs hn => ds_ne w.2.1 kv hj h8 hs rfl hn
  refine ⟨k0, k1, k2, k3, k4, k41, k5, k8, l8, un 0 _ h0 rfl (by decide), un 1 _ h1 rfl (by decide), un 2 _ h2 rfl (by decide), un 3 _ h3 rfl (by decide), fun q => ?_, un 5 _ h5 rfl (by decide)⟩
  subst q
  exact ks_ne k4 kv (by decide) (w.2.1.2.2 u4 4 1 v8 8 8 u41 k4 kv h41 h8 rfl rfl).1
theorem r_X4_mainOf {Z : jZ} {I : jI} {L : jL} (v0 u1 : Nat) (h1 : jr Z v0 1 = some u1) (v1 : Int32) (s : Nat) (e1 : v1.toInt = (s : Int)) (hs : s < 24) {Q : Int32 → jI → jL → Prop} (hQ : Q (I u1 s) I L) : f_X4_mainOf v0 v1 Z I L Q := by
  have q1 : v1.toNatClampNeg = s := by have := i_nat e1 (by omega); omega
  unfold f_X4_mainOf
  refine ⟨fun c => ?_, fun _ => ⟨fun c => ?_, fun _ => ?_⟩⟩
  · have c := (i_lt e1 (show (0 : Int32).toInt = 0 from rfl)).mp c
    omega
  · have c := (i_le (show (24 : Int32).toInt = 24 from rfl) e1).mp c
    omega
  · intro b3 h3
    cases h1.symm.trans h3
    rw [q1]
    exact ⟨vi_of e1 (by omega) (by omega), hQ⟩
set_option maxHeartbeats 2000000 in
theorem r_X8_putLetters {Z : jZ} {I : jI} {L : jL} (w : WD Z I) (v0 u0 u1 u2 u3 u4 u41 u5 u8 : Nat) (S : STc Z v0 u0 u1 u2 u3 u4 u41 u5 u8) (v1 v2 v3 v4 : Int32) (n : Int) (hn : (I v0 9).toInt = n) (n24 : n ≤ 24) (hs : 0 ≤ v1.toInt ∧ v1.toInt < n) (hf : -1 ≤ v2.toInt ∧ v2.toInt < n) {Q : jI → jL → Prop} (hQ : ∀ (I' : jI), WD Z I' → FR [(8, 8)] Z I Z I' → (∀ a, a ≠ u8 → I' a = I a) → (∀ j, j < 7 → I' u8 j = ltrP (I u2) (I u0) (I u1) (I u3) (xLc (I u41) (I u5)) v1.toInt v2.toInt v3.toInt v4.toInt j) → Q I' L) : f_X8_putLetters v0 v1 v2 v3 v4 Z I L Q := by
  obtain ⟨k0, k1, k2, k3, k4, k41, k5, k8, l8, n0, n1, n2, n3, n41, n5⟩ := STc_k w S
  obtain ⟨kv0, h0, h1, h2, h3, h4, h41, h5, h8⟩ := S
  have q1 : v1.toNatClampNeg = v1.toInt.toNat := by have := i_nat (x := v1) rfl (by omega); omega
  have vi : vp_in v1 24 := vi_of rfl (by omega) (by omega)
  have nv : v0 ≠ u8 := ks_ne kv0 k8 (by decide)
  have z0 : (0 : Int32).toInt = 0 := rfl
  have z8 : (8 : Int32).toInt = 8 := rfl
  have put : ∀ (J J' : jI) (j : Nat) (x : Int32), WD Z J → FR [(8, 8)] Z I Z J → (∀ a, a ≠ u8 → J a = I a) → J' = jpI J u8 j x → WD Z J' ∧ FR [(8, 8)] Z I Z J' ∧ (∀ a, a ≠ u8 → J' a = I a) := fun J J' j x wJ fJ oJ e => ⟨by rw [e]; exact WD_putA wJ 8 8 kv0 h8 k8 rfl rfl (by decide) trivial, fJ.trans w.1 w.2.1 (by rw [e]; exact FR_upA wJ.2.1 kv0 h8 k8 rfl rfl List.mem_cons_self), fun a ha => by rw [e, jpI_ne ha]; exact oJ a ha⟩
  unfold f_X8_putLetters
  refine r_X8_has v0 v1 v1.toInt n rfl hn hs.1 hs.2 w kv0 (fun r13 hr => ⟨fun _ => ?_, fun c => absurd c hr⟩)
  intro b15 h15; cases h8.symm.trans h15
  intro b16 h16; cases h2.symm.trans h16
  refine ⟨vi, fun I18 e18 => ?_⟩
  rw [show (0 : Int32).toNatClampNeg = 0 by decide, q1] at e18
  obtain ⟨w18, f18, o18⟩ := put I I18 0 _ w FR.rf (fun _ _ => rfl) e18
  intro b19 h19; cases h8.symm.trans h19
  intro b20 h20; cases h0.symm.trans h20
  refine ⟨vi, fun I22 e22 => ?_⟩
  rw [show (1 : Int32).toNatClampNeg = 1 by decide, q1, o18 u0 n0] at e22
  obtain ⟨w22, f22, o22⟩ := put I18 I22 1 _ w18 f18 o18 e22
  intro b23 h23; cases h8.symm.trans h23
  intro b24 h24; cases h1.symm.trans h24
  refine ⟨vi, fun I26 e26 => ?_⟩
  rw [show (2 : Int32).toNatClampNeg = 2 by decide, q1, o22 u1 n1] at e26
  obtain ⟨w26, f26, o26⟩ := put I22 I26 2 _ w22 f22 o22 e26
  intro b27 h27; cases h8.symm.trans h27
  intro b28 h28; cases h3.symm.trans h28
  refine ⟨vi, fun I30 e30 => ?_⟩
  rw [show (3 : Int32).toNatClampNeg = 3 by decide, q1, o26 u3 n3] at e30
  obtain ⟨w30, f30, o30⟩ := put I26 I30 3 _ w26 f26 o26 e30
  intro b31 h31; cases h8.symm.trans h31
  have hn30 : (I30 v0 9).toInt = n := by rw [o30 v0 nv]; exact hn
  have fin : ∀ s2 : Int32, s2 = xLc (I u41) (I u5) v1.toInt v2.toInt → f_X8_putLetters_b98 Z Q v0 v3 v4 u8 (4 : Int32) s2 I30 L := by
    intro s2 hs2
    unfold f_X8_putLetters_b98
    refine ⟨by rw [l8]; exact vi_of (show (4 : Int32).toInt = 4 from rfl) (by decide) (by decide), fun I2 e2 => ?_⟩
    rw [show (4 : Int32).toNatClampNeg = 4 by decide] at e2
    obtain ⟨w2, f2, o2⟩ := put I30 I2 4 _ w30 f30 o30 e2
    intro b3 q3; cases h8.symm.trans q3
    intro I4 e4
    rw [show (5 : Int32).toNatClampNeg = 5 by decide] at e4
    obtain ⟨w4, f4, o4⟩ := put I2 I4 5 _ w2 f2 o2 e4
    intro b5 q5; cases h8.symm.trans q5
    intro I6 e6
    rw [show (6 : Int32).toNatClampNeg = 6 by decide] at e6
    obtain ⟨w6, f6, o6⟩ := put I4 I6 6 _ w4 f4 o4 e6
    refine hQ I6 w6 f6 o6 (fun j hj => ?_)
    have hc : j = 0 ∨ j = 1 ∨ j = 2 ∨ j = 3 ∨ j = 4 ∨ j = 5 ∨ j = 6 := by omega
    rcases hc with e | e | e | e | e | e | e
    · rw [e, e6, jpI_off (by decide), e4, jpI_off (by decide), e2, jpI_off (by decide), e30, jpI_off (by decide), e26, jpI_off (by decide), e22, jpI_off (by decide), e18, jpI_at]
      rfl
    · rw [e, e6, jpI_off (by decide), e4, jpI_off (by decide), e2, jpI_off (by decide), e30, jpI_off (by decide), e26, jpI_off (by decide), e22, jpI_at]
      rfl
    · rw [e, e6, jpI_off (by decide), e4, jpI_off (by decide), e2, jpI_off (by decide), e30, jpI_off (by decide), e26, jpI_at]
      rfl
    · rw [e, e6, jpI_off (by decide), e4, jpI_off (by decide), e2, jpI_off (by decide), e30, jpI_at]
      rfl
    · rw [e, e6, jpI_off (by decide), e4, jpI_off (by decide), e2, jpI_at]
      exact hs2
    · rw [e, e6, jpI_off (by decide), e4, jpI_at]
      exact (Int32.ofInt_toInt _).symm
    · rw [e, e6, jpI_at]
      exact (Int32.ofInt_toInt _).symm
  refine s_X8_has w30 v0 v2 kv0 (fun r38 p38 => ⟨fun c => ?_, fun c => ?_⟩)
  · have c := (i_eq (x := r38) rfl z0).mp c
    unfold f_X8_putLetters_b97
    refine fin 0 ?_
    unfold xLc
    rw [if_neg (by omega)]
  · have c := (not_congr (i_eq (x := r38) rfl z0)).mp c
    have hf0 : 0 ≤ v2.toInt := by omega
    intro b40 h40; cases h4.symm.trans h40
    refine r_X4_mainOf u4 u41 h41 v1 v1.toInt.toNat (by omega) (by omega) ?_
    intro b48 h48; cases h4.symm.trans h48
    refine r_X4_mainOf u4 u41 h41 v2 v2.toInt.toNat (by omega) (by omega) ?_
    rw [o30 u41 n41]
    have hm : 0 ≤ (I u41 v1.toInt.toNat).toInt ∧ (I u41 v1.toInt.toNat).toInt ≤ 7 := w.arr 4 1 k4 h41 k41 rfl rfl _
    unfold f_X8_inFeud
    refine ⟨fun c2 => ?_, fun _ => ⟨fun c2 => ?_, fun _ => ?_⟩⟩
    · have c2 := (i_lt (x := I u41 v1.toInt.toNat) rfl z0).mp c2
      omega
    · have c2 := (i_le (y := I u41 v1.toInt.toNat) z8 rfl).mp c2
      omega
    intro b3 q3; cases h5.symm.trans q3
    rw [o30 u5 n5]
    refine ⟨vi_of rfl (by omega) (by omega), fun c3 => ⟨fun _ => ?_, fun c4 => absurd rfl c4⟩, fun c3 => ⟨fun c4 => absurd c4 (by decide), fun _ => ?_⟩⟩
    · unfold f_X8_putLetters_b97
      refine fin 0 ?_
      unfold xLc
      rw [if_pos hf0, if_pos c3]
    · refine fin 1 ?_
      unfold xLc
      rw [if_pos hf0, if_neg c3]
/-- the LAWS of the class's stairs -/
def LWs (Z : jZ) (I : jI) (v8 uL0 uC0 uL1 uC1 : Nat) (c0 c1 : List Int) : Prop := jr Z v8 6 = some uL0 ∧ jr Z uL0 0 = some uC0 ∧ jr Z v8 7 = some uL1 ∧ jr Z uL1 0 = some uC1 ∧ LWc I uL0 uC0 c0 ∧ LWc I uL1 uC1 c1 ∧ (COk c0 ∧ c0.length ≤ 40) ∧ (COk c1 ∧ c1.length ≤ 40)
set_option maxHeartbeats 2000000 in
theorem pr_b15 {Z : jZ} {I : jI} {L : jL} (w : WD Z I) (v0 u0 u1 u2 u3 u4 u41 u5 u8 : Nat) (S : STc Z v0 u0 u1 u2 u3 u4 u41 u5 u8) (uL uC j : Nat) (hL : jr Z v0 j = some uL) (j8 : j ≠ 8) (js : jsr 8 j = false) (kL : jk Z uL 3) (hC : jr Z uL 0 = some uC) (c0 c1 c : List Int) (hc : LWc I uL uC c) (ok : COk c ∧ c.length ≤ 40) (v1 v2 v3 v4 v5 : Int32) (ec : (if v1.toInt = 0 then c0 else c1) = c) (n : Int) (hn : (I v0 9).toInt = n) (n24 : n ≤ 24) (hs : 0 ≤ v2.toInt ∧ v2.toInt < n) (hf : -1 ≤ v3.toInt ∧ v3.toInt < n) {Q : Int32 → jI → jL → Prop} (hQ : ∀ (r : Int32) (I' : jI) (L' : jL), WD Z I' → FR Ws_X8_priceOf Z I Z I' → r.toInt = PRf c0 c1 (I u2) (I u0) (I u1) (I u3) (xLc (I u41) (I u5)) v1.toInt v2.toInt v3.toInt v4.toInt v5.toInt → Q r I' L') : f_X8_priceOf_b15 Z Q v0 v1 v2 v3 v4 v5 uL I L := by
  obtain ⟨k0, k1, k2, k3, k4, k41, k5, k8, l8, n0, n1, n2, n3, n41, n5⟩ := STc_k w S
  have S2 := S
  obtain ⟨kv0, h0, h1, h2, h3, h4, h41, h5, h8⟩ := S2
  have z0 : (0 : Int32).toInt = 0 := rfl
  have q2 : v2.toNatClampNeg = v2.toInt.toNat := by have := i_nat (x := v2) rfl (by omega); omega
  have vi : vp_in v2 24 := vi_of rfl (by omega) (by omega)
  unfold f_X8_priceOf_b15
  refine r_X8_has v0 v2 v2.toInt n rfl hn hs.1 hs.2 w kv0 (fun r7 hr => ⟨fun _ => ?_, fun q => absurd q hr⟩)
  obtain ⟨e3, ev3, e4⟩ := hc
  unfold f_X3_isTold
  refine ⟨fun q => ⟨fun q9 => absurd rfl q9, fun _ => ?_⟩, fun q => ⟨fun _ => ?_, fun q9 => absurd q9 (by decide)⟩⟩
  · have q := (i_le e3 z0).mp q
    have hz : c.length = 0 := by omega
    refine ⟨fun g => ?_, fun g => ?_⟩
    · have g := (not_congr (i_eq (x := v1) rfl z0)).mp g
      refine hQ 0 I L w FR.rf ?_
      unfold PRf
      rw [ec, if_pos hz, if_neg (fun h => g h.1)]
      rfl
    · have g := (i_eq (x := v1) rfl z0).mp g
      intro b32 h32; cases h3.symm.trans h32
      rw [q2]
      refine ⟨vi, fun g2 => ?_, fun g2 => ?_⟩
      · refine hQ 0 I L w FR.rf ?_
        unfold PRf
        rw [ec, if_pos hz, if_neg (fun h => g2 h.2)]
        rfl
      · intro b35 h35; cases h2.symm.trans h35
        refine ⟨vi, hQ _ I L w FR.rf ?_⟩
        unfold PRf
        rw [ec, if_pos hz, if_pos ⟨g, g2⟩]
  · have q := (not_congr (i_le e3 z0)).mp q
    have hz : ¬ c.length = 0 := by omega
    refine r_X8_putLetters w v0 u0 u1 u2 u3 u4 u41 u5 u8 S v2 v3 v4 v5 n hn n24 hs hf (fun I' w' f' o' hl => ?_)
    intro b23 h23; cases h8.symm.trans h23
    obtain ⟨uS, hS, kS, -⟩ := sh_f w.1 kL (j := 2) (k := 14) (m := 41) rfl
    have n8S : u8 ≠ uS := fun q9 => by
      subst q9
      exact ks_ne kv0 kL (by decide) (w.2.1.2.2 v0 8 8 uL 3 2 u8 kv0 kL h8 hS rfl rfl).1
    obtain ⟨x, ex, kC, -⟩ := sh_f w.1 kL (j := 0) (k := 14) (m := 40) rfl
    cases hC.symm.trans ex
    have nC8 : uC ≠ u8 := fun q9 => by
      subst q9
      exact ks_ne kL kv0 (by decide) (w.2.1.2.2 uL 3 0 v0 8 8 uC kL kv0 hC h8 rfl rfl).1
    have nL8 : uL ≠ u8 := ks_ne kL k8 (by decide)
    refine s18_X3_priceFor w' uL u8 kL k8 l8 uC uS hC hS n8S c (by rw [o' uL nL8]; exact e3) ok.2 (fun i hi => by rw [o' uC nC8]; exact ev3 i hi) ok.1 (fun I2 L2 w2 f2 o2 => ?_)
    refine hQ _ I2 L2 w2 ((f'.mono (by decide)).trans w.1 w.2.1 (f2.mono (by decide))) ?_
    unfold PRf
    rw [ec, if_neg hz, ev_cong hl c [] (COk_mem ok.1)]
/-- the class's prices are this function -/
theorem PRC_of {Z : jZ} {I0 : jI} (w0 : WD Z I0) (v0 u0 u1 u2 u3 u4 u41 u5 u8 : Nat) (S : STc Z v0 u0 u1 u2 u3 u4 u41 u5 u8) (uL0 uC0 uL1 uC1 : Nat) (c0 c1 : List Int) (hl : LWs Z I0 v0 uL0 uC0 uL1 uC1 c0 c1) (n : Int) (hn : (I0 v0 9).toInt = n) (n24 : n ≤ 24) : PRC Z I0 v0 n (PRf c0 c1 (I0 u2) (I0 u0) (I0 u1) (I0 u3) (xLc (I0 u41) (I0 u5))) := by
  intro v1 v2 v3 v4 v5 I L Q w f b1 b2 b3 hQ
  obtain ⟨k0, k1, k2, k3, k4, k41, k5, k8, l8, n0, n1, n2, n3, n41, n5⟩ := STc_k w0 S
  have S2 := S
  obtain ⟨kv0, h0, h1, h2, h3, h4, h41, h5, h8⟩ := S2
  obtain ⟨hL0, hC0, hL1, hC1, g0, g1, ok0, ok1⟩ := hl
  have z0 : (0 : Int32).toInt = 0 := rfl
  have ar : ∀ (a c j b : Nat), jk Z a c → jr Z a j = some b → jk Z b 14 → jsr c j = false → (c, j) ∉ Wl → I b = I0 b := fun a c j b ka e kb hs hw => f.2.2.2 a c j b ka e (by rw [kb.2]; rfl) hs hw
  have a0 := ar v0 8 0 u0 kv0 h0 k0 rfl (by decide)
  have a1 := ar v0 8 1 u1 kv0 h1 k1 rfl (by decide)
  have a2 := ar v0 8 2 u2 kv0 h2 k2 rfl (by decide)
  have a3 := ar v0 8 3 u3 kv0 h3 k3 rfl (by decide)
  have a41 := ar u4 4 1 u41 k4 h41 k41 rfl (by decide)
  have a5 := ar v0 8 5 u5 kv0 h5 k5 rfl (by decide)
  have hn' : (I v0 9).toInt = n := by rw [f.2.2.1 v0 8 9 kv0 (by decide) (by decide)]; exact hn
  obtain ⟨x, ex, kL0⟩ := sh_o w0.1 kv0 (j := 6) (k := 3) rfl
  cases hL0.symm.trans ex
  obtain ⟨x, ex, kL1⟩ := sh_o w0.1 kv0 (j := 7) (k := 3) rfl
  cases hL1.symm.trans ex
  obtain ⟨x, ex, kC0, -⟩ := sh_f w0.1 kL0 (j := 0) (k := 14) (m := 40) rfl
  cases hC0.symm.trans ex
  obtain ⟨x, ex, kC1, -⟩ := sh_f w0.1 kL1 (j := 0) (k := 14) (m := 40) rfl
  cases hC1.symm.trans ex
  have g0' := LWc_eq g0 (f.2.2.1 uL0 3 3 kL0 (by decide) (by decide)) (f.2.2.1 uL0 3 4 kL0 (by decide) (by decide)) (ar uL0 3 0 uC0 kL0 hC0 kC0 rfl (by decide))
  have g1' := LWc_eq g1 (f.2.2.1 uL1 3 3 kL1 (by decide) (by decide)) (f.2.2.1 uL1 3 4 kL1 (by decide) (by decide)) (ar uL1 3 0 uC1 kL1 hC1 kC1 rfl (by decide))
  rw [← a0, ← a1, ← a2, ← a3, ← a41, ← a5] at hQ
  unfold f_X8_priceOf
  refine ⟨fun c b38 h38 => ?_, fun c b39 h39 => ?_⟩
  · have c := (not_congr (i_eq (x := v1) rfl z0)).mp c
    cases hL1.symm.trans h38
    exact pr_b15 w v0 u0 u1 u2 u3 u4 u41 u5 u8 S uL1 uC1 7 hL1 (by decide) rfl kL1 hC1 c0 c1 c1 g1' ok1 v1 v2 v3 v4 v5 (if_neg c) n hn' n24 b2 b3 hQ
  · have c := (i_eq (x := v1) rfl z0).mp c
    cases hL0.symm.trans h39
    exact pr_b15 w v0 u0 u1 u2 u3 u4 u41 u5 u8 S uL0 uC0 6 hL0 (by decide) rfl kL0 hC0 c0 c1 c0 g0' ok0 v1 v2 v3 v4 v5 (if_pos c) n hn' n24 b2 b3 hQ
/-! ===== prices as a function of LAWS, STEPS, who is MAIN, FEUDS: the reference ===== -/
def xLm (MN fe : Nat → Int32) (st fr : Int) : Int32 := if 0 ≤ fr then (if fe (8 * (MN fr.toNat).toInt + (MN st.toNat).toInt).toNat = 0 then 0 else 1) else 0
def wLm (f : Nat → Int32) (k : Nat) : Int32 := if f k = 0 then 0 else 1
/-- the reference's stairs: rise, state, asks, widow, feuds, laws -/
def STm (Z : jZ) (v0 t1 t2 t3 t4 t6 t29 t30 : Nat) : Prop := jk Z v0 12 ∧ jr Z v0 1 = some t1 ∧ jr Z v0 2 = some t2 ∧ jr Z v0 3 = some t3 ∧ jr Z v0 4 = some t4 ∧ jr Z v0 6 = some t6 ∧ jr Z v0 29 = some t29 ∧ jr Z v0 30 = some t30
theorem STm_k {Z : jZ} {I : jI} {v0 t1 t2 t3 t4 t6 t29 t30 : Nat} (w : WD Z I) (S : STm Z v0 t1 t2 t3 t4 t6 t29 t30) : jk Z t1 14 ∧ jk Z t2 14 ∧ jk Z t3 14 ∧ jk Z t4 16 ∧ jk Z t6 16 ∧ jk Z t29 19 ∧ jlen Z t29 = 2 ∧ jk Z t30 14 := by
  obtain ⟨kv, h1, h2, h3, h4, h6, h29, h30⟩ := S
  obtain ⟨x, ex, k1, -⟩ := sh_f w.1 kv (j := 1) (k := 14) (m := 24) rfl
  cases h1.symm.trans ex
  obtain ⟨x, ex, k2, -⟩ := sh_f w.1 kv (j := 2) (k := 14) (m := 24) rfl
  cases h2.symm.trans ex
  obtain ⟨x, ex, k3, -⟩ := sh_f w.1 kv (j := 3) (k := 14) (m := 24) rfl
  cases h3.symm.trans ex
  obtain ⟨x, ex, k4, -⟩ := sh_f w.1 kv (j := 4) (k := 16) (m := 24) rfl
  cases h4.symm.trans ex
  obtain ⟨x, ex, k6, -⟩ := sh_f w.1 kv (j := 6) (k := 16) (m := 64) rfl
  cases h6.symm.trans ex
  obtain ⟨x, ex, k29, l29⟩ := sh_f w.1 kv (j := 29) (k := 19) (m := 2) rfl
  cases h29.symm.trans ex
  obtain ⟨x, ex, k30, -⟩ := sh_f w.1 kv (j := 30) (k := 14) (m := 2) rfl
  cases h30.symm.trans ex
  exact ⟨k1, k2, k3, k4, k6, k29, l29, k30⟩
set_option maxHeartbeats 2000000 in
theorem LTR_of {Z : jZ} {I1 : jI} (w1 : WD Z I1) (v0 t1 t2 t3 t4 t6 t29 t30 : Nat) (S : STm Z v0 t1 t2 t3 t4 t6 t29 t30) (n : Nat) (n24 : n ≤ 24) (MN : Nat → Int32) (bM : ∀ s, s < n → 0 ≤ (MN s).toInt ∧ (MN s).toInt ≤ 7) (hM : ∀ (v : Int32) (s : Nat) (I : jI) (L : jL) (Q : Int32 → jI → jL → Prop), WD Z I → FR Ws_R12 Z I1 Z I → v.toInt = (s : Int) → s < n → Q (MN s) I L → f_X12_mainOf v0 v Z I L Q) (st fr : Int) (ld lp : Int32) (e31 : (I1 v0 31).toInt = st) (hs : 0 ≤ st ∧ st < (n : Int)) (e32 : (I1 v0 32).toInt = fr) (hf : -1 ≤ fr ∧ fr < (n : Int)) (e33 : I1 v0 33 = ld) (e34 : I1 v0 34 = lp) (sz : Int) : LTR Z I1 v0 sz (ltrP (I1 t3) (I1 t1) (I1 t2) (wLm (I1 t4)) (xLm MN (I1 t6)) st fr lp.toInt ld.toInt) := by
  intro F c I L a Q s hx hq
  obtain ⟨k1, k2, k3, k4, k6, k29, l29, k30⟩ := STm_k w1 S
  obtain ⟨kv, h1, h2, h3, h4, h6, h29, h30⟩ := S
  have f := s.2.1
  have z0 : (0 : Int32).toInt = 0 := rfl
  have z8 : (8 : Int32).toInt = 8 := rfl
  have a1 : I t1 = I1 t1 := f.2.2.2 v0 12 1 t1 kv h1 (by rw [k1.2]; rfl) rfl (by decide)
  have a2 : I t2 = I1 t2 := f.2.2.2 v0 12 2 t2 kv h2 (by rw [k2.2]; rfl) rfl (by decide)
  have a3 : I t3 = I1 t3 := f.2.2.2 v0 12 3 t3 kv h3 (by rw [k3.2]; rfl) rfl (by decide)
  have a4 : I t4 = I1 t4 := f.2.2.2 v0 12 4 t4 kv h4 (by rw [k4.2]; rfl) rfl (by decide)
  have a6 : I t6 = I1 t6 := f.2.2.2 v0 12 6 t6 kv h6 (by rw [k6.2]; rfl) rfl (by decide)
  have b31 : (I v0 31).toInt = st := by rw [f.2.2.1 v0 12 31 kv (by decide) (by decide)]; exact e31
  have b32 : (I v0 32).toInt = fr := by rw [f.2.2.1 v0 12 32 kv (by decide) (by decide)]; exact e32
  have b33 : I v0 33 = ld := by rw [f.2.2.1 v0 12 33 kv (by decide) (by decide)]; exact e33
  have b34 : I v0 34 = lp := by rw [f.2.2.1 v0 12 34 kv (by decide) (by decide)]; exact e34
  have n31 : (I v0 31).toNatClampNeg = st.toNat := by have := i_nat b31 (by omega); omega
  have vi : vp_in (I v0 31) 24 := vi_of b31 (by omega) (by omega)
  have go : ∀ k : Nat, (lix c.toInt).toNat = k → Q (ltrP (I1 t3) (I1 t1) (I1 t2) (wLm (I1 t4)) (xLm MN (I1 t6)) st fr lp.toInt ld.toInt k) I L := fun k e => by
    rw [← e]
    exact hq I L s
  refine ⟨fun _ => ?_, fun q => ?_⟩
  · unfold f_X12_letter
    refine ⟨fun g => ?_, fun g97 => ⟨fun g => ?_, fun g108 => ⟨fun g => ?_, fun g114 => ⟨fun g => ?_, fun g115 => ⟨fun g => ?_, fun g119 => ⟨fun g => ?_, fun g120 => ?_⟩⟩⟩⟩⟩⟩
    · have e := go 0 (by rw [g]; decide)
      intro b2 q2; cases h3.symm.trans q2
      rw [n31, a3]
      exact ⟨vi, e⟩
    · have e := go 5 (by rw [g]; decide)
      have e5 : ltrP (I1 t3) (I1 t1) (I1 t2) (wLm (I1 t4)) (xLm MN (I1 t6)) st fr lp.toInt ld.toInt 5 = ld := Int32.ofInt_toInt _
      rw [e5] at e
      rw [b33]
      exact e
    · have e := go 1 (by rw [g]; decide)
      intro b2 q2; cases h1.symm.trans q2
      rw [n31, a1]
      exact ⟨vi, e⟩
    · have e := go 2 (by rw [g]; decide)
      intro b2 q2; cases h2.symm.trans q2
      rw [n31, a2]
      exact ⟨vi, e⟩
    · have e := go 3 (by rw [g]; decide)
      have e5 : ltrP (I1 t3) (I1 t1) (I1 t2) (wLm (I1 t4)) (xLm MN (I1 t6)) st fr lp.toInt ld.toInt 3 = wLm (I1 t4) st.toNat := rfl
      rw [e5] at e
      intro b2 q2; cases h4.symm.trans q2
      rw [n31, a4]
      refine ⟨vi, fun q => ?_, fun q => ?_⟩
      · have e6 : wLm (I1 t4) st.toNat = 0 := by unfold wLm; rw [if_pos q]
        rw [e6] at e
        exact e
      · have e6 : wLm (I1 t4) st.toNat = 1 := by unfold wLm; rw [if_neg q]
        rw [e6] at e
        exact e
    · have e := go 4 (by rw [g]; decide)
      have e5 : ltrP (I1 t3) (I1 t1) (I1 t2) (wLm (I1 t4)) (xLm MN (I1 t6)) st fr lp.toInt ld.toInt 4 = xLm MN (I1 t6) st fr := rfl
      rw [e5] at e
      refine ⟨fun q => ?_, fun q => ?_⟩
      · have q := (i_lt b32 z0).mp q
        have e6 : xLm MN (I1 t6) st fr = 0 := by unfold xLm; rw [if_neg (by omega)]
        rw [e6] at e
        exact e
      · have q := (not_congr (i_lt b32 z0)).mp q
        have hf0 : 0 ≤ fr := by omega
        have m1 := bM fr.toNat (by omega)
        have m2 := bM st.toNat (by omega)
        intro b17 q17; cases h6.symm.trans q17
        refine hM (I v0 32) fr.toNat I L _ s.1 f (by omega) (by omega) ?_
        refine hM (I v0 31) st.toNat I L _ s.1 f (by omega) (by omega) ?_
        have tI : (((8 : Int32) * MN fr.toNat) + MN st.toNat).toInt = 8 * (MN fr.toNat).toInt + (MN st.toNat).toInt := i_add (i_mul z8 rfl (by omega) (by omega)) rfl (by omega) (by omega)
        have nI9 : (((8 : Int32) * MN fr.toNat) + MN st.toNat).toNatClampNeg = (8 * (MN fr.toNat).toInt + (MN st.toNat).toInt).toNat := by have := i_nat tI (by omega); omega
        rw [nI9, a6]
        refine ⟨vi_of tI (by omega) (by omega), fun q2 => ?_, fun q2 => ?_⟩
        · have e6 : xLm MN (I1 t6) st fr = 0 := by unfold xLm; rw [if_pos hf0, if_pos q2]
          rw [e6] at e
          exact e
        · have e6 : xLm MN (I1 t6) st fr = 1 := by unfold xLm; rw [if_pos hf0, if_neg q2]
          rw [e6] at e
          exact e
    · have ne : ∀ (k : Int32) (v : Int), k.toInt = v → ¬ c = k → ¬ c.toInt = v := fun k v hk g e => g ((i_eq rfl hk).mpr e)
      have h6 : c.toInt = 106 := Classical.byContradiction (fun q => by
        unfold lix at hx
        rw [if_neg (ne 97 97 rfl g97), if_neg (ne 114 114 rfl g114), if_neg (ne 115 115 rfl g115), if_neg (ne 119 119 rfl g119), if_neg (ne 120 120 rfl g120), if_neg (ne 108 108 rfl g108), if_neg q] at hx
        omega)
      have e := go 6 (by rw [h6]; decide)
      have e5 : ltrP (I1 t3) (I1 t1) (I1 t2) (wLm (I1 t4)) (xLm MN (I1 t6)) st fr lp.toInt ld.toInt 6 = lp := Int32.ofInt_toInt _
      rw [e5] at e
      rw [b34]
      exact e
  · have q := (i_eq b31 (show (-1 : Int32).toInt = -1 from rfl)).mp q
    omega
theorem not19m {i : Nat} : (19, i) ∉ Wm := fun h => by
  unfold Wm at h
  simp at h
theorem not19r {i : Nat} : (19, i) ∉ Ws_R12 := fun h => by
  unfold Ws_R12 at h
  simp at h
set_option maxHeartbeats 4000000 in
/-- the reference's prices are this function -/
theorem PRM_of {B : Nat × Nat} {T : Nat} {Z0 : jZ} {I0 : jI} (w0 : WD Z0 I0) (v0 t1 t2 t3 t4 t6 t29 t30 : Nat) (S : STm Z0 v0 t1 t2 t3 t4 t6 t29 t30) (n : Nat) (n24 : n ≤ 24) (MN : Nat → Int32) (bM : ∀ s, s < n → 0 ≤ (MN s).toInt ∧ (MN s).toInt ≤ 7) (hM : MNM Z0 I0 v0 n MN) (uX0 uX1 : Nat) (hX0 : jr Z0 t29 0 = some uX0) (hX1 : jr Z0 t29 1 = some uX1) (s0 s1 : Int) (g0 : (I0 t30 0).toInt = s0 ∧ 0 ≤ s0 ∧ s0 ≤ 40 ∧ lwA (I0 uX0) s0 = 0) (g1 : (I0 t30 1).toInt = s1 ∧ 0 ≤ s1 ∧ s1 ≤ 40 ∧ lwA (I0 uX1) s1 = 0) (a r s w : Nat → Int32) (x : Int → Int → Int32) (ha : ∀ k, k < n → I0 t3 k = a k) (hr : ∀ k, k < n → I0 t1 k = r k) (hs : ∀ k, k < n → I0 t2 k = s k) (hw : ∀ k, k < n → wLm (I0 t4) k = w k) (hx : ∀ st fr : Int, 0 ≤ st → st < (n : Int) → -1 ≤ fr → fr < (n : Int) → xLm MN (I0 t6) st fr = x st fr) : PRM B T Z0 I0 v0 (n : Int) (PRf (lwC (I0 uX0) s0) (lwC (I0 uX1) s1) a r s w x) := by
  intro v1 v2 v3 v4 v5 Z I L Q wZ bd f b1 b2 b3 hQ
  obtain ⟨k1, k2, k3, k4, k6, k29, l29, k30⟩ := STm_k w0 S
  obtain ⟨kv, h1, h2, h3, h4, h6, h29, h30⟩ := S
  have z0 : (0 : Int32).toInt = 0 := rfl
  have z1 : (1 : Int32).toInt = 1 := rfl
  obtain ⟨i, uX, sz, ei, hi, hX, es, hs0, hs40, hA, ec⟩ : ∃ (i uX : Nat) (sz : Int), v1.toInt = (i : Int) ∧ i < 2 ∧ jr Z0 t29 i = some uX ∧ (I0 t30 i).toInt = sz ∧ 0 ≤ sz ∧ sz ≤ 40 ∧ lwA (I0 uX) sz = 0 ∧ (if v1.toInt = 0 then lwC (I0 uX0) s0 else lwC (I0 uX1) s1) = lwC (I0 uX) sz := by
    rcases (show v1.toInt = 0 ∨ v1.toInt = 1 by omega) with q | q
    · exact ⟨0, uX0, s0, q, by decide, hX0, g0.1, g0.2.1, g0.2.2.1, g0.2.2.2, if_pos q⟩
    · exact ⟨1, uX1, s1, q, by decide, hX1, g1.1, g1.2.1, g1.2.2.1, g1.2.2.2, if_neg (by omega)⟩
  obtain ⟨y, ey, kX, lX⟩ := w0.1.2.2.2 t29 k29 i (by rw [l29]; exact hi)
  cases hX.symm.trans ey
  have ar : ∀ (j b k : Nat), jr Z0 v0 j = some b → jk Z0 b k → jia k = true → j ≠ 23 → (12, j) ∉ Wm → I b = I0 b := fun j b k e kb hk hj hn => f.2.2.2 v0 12 j b kv e (by rw [kb.2]; exact hk) (jsr12 hj) hn
  have a1 := ar 1 t1 14 h1 k1 rfl (by decide) (by decide)
  have a2 := ar 2 t2 14 h2 k2 rfl (by decide) (by decide)
  have a3 := ar 3 t3 14 h3 k3 rfl (by decide) (by decide)
  have a4 := ar 4 t4 16 h4 k4 rfl (by decide) (by decide)
  have a6 := ar 6 t6 16 h6 k6 rfl (by decide) (by decide)
  have a30 := ar 30 t30 14 h30 k30 rfl (by decide) (by decide)
  have aX : I uX = I0 uX := f.2.2.2 t29 19 i uX k29 hX (by rw [kX.2]; rfl) (jsr19 hi) not19m
  have rf : ∀ (j b : Nat), jr Z0 v0 j = some b → j ≠ 23 → jr Z v0 j = some b := fun j b e hj => (f.2.1 v0 12 j kv (fun q => absurd q.1 (by decide)) (fun q => hj q.2)).trans e
  have r3 := rf 3 t3 h3 (by decide)
  have r4 := rf 4 t4 h4 (by decide)
  have r29 := rf 29 t29 h29 (by decide)
  have r30 := rf 30 t30 h30 (by decide)
  have rX : jr Z t29 i = some uX := (f.2.1 t29 19 i k29 (fun q => absurd q.1 (by decide)) (fun q => absurd q.1 (by decide))).trans hX
  have kvZ := (f.1 _ _ kv).1
  have k29Z := (f.1 _ _ k29).1
  have kXZ := (f.1 _ _ kX).1
  have lXZ : jlen Z uX = 40 := (f.1 _ _ kX).2.trans lX
  have q1 : v1.toNatClampNeg = i := by have := i_nat ei (by omega); omega
  have q2 : v2.toNatClampNeg = v2.toInt.toNat := by have := i_nat (x := v2) rfl (by omega); omega
  have vi1 : vp_in v1 2 := vi_of ei (by omega) (by omega)
  have vi2 : vp_in v2 24 := vi_of rfl (by omega) (by omega)
  unfold f_X12_lawOf
  intro b1' hb1; cases r30.symm.trans hb1
  rw [q1, a30]
  refine ⟨vi1, fun c => ?_, fun c => ?_⟩
  · have c := (not_congr (i_eq es z0)).mp c
    intro b4 hb4; cases r29.symm.trans hb4
    refine ⟨vi1, ?_⟩
    intro b6 hb6; cases rX.symm.trans hb6
    intro b7 hb7; cases r30.symm.trans hb7
    rw [a30]
    refine ⟨vi1, ?_⟩
    refine s_X12_begin wZ bd v0 uX (I0 t30 i) 40 kvZ kXZ t29 19 i k29Z rX (fun Z2 I2 L2 w2 bd2 f2 cp2 p2 => ?_)
    obtain ⟨p23, p24, p25, p26, p27⟩ := p2
    have kv2 := (f2.1 _ _ kvZ).1
    have k292 := (f2.1 _ _ k29Z).1
    have kX2 := (f2.1 _ _ kXZ).1
    have lX2 : jlen Z2 uX = 40 := (f2.1 _ _ kXZ).2.trans lXZ
    have rX2 : jr Z2 t29 i = some uX := (f2.2.1 t29 19 i k29Z (fun q => absurd q.1 (by decide)) (fun q => absurd q.1 (by decide))).trans rX
    intro I16 e16 I17 e17 I18 e18 I19 e19
    have w16 : WD Z2 I16 := by rw [e16]; exact WD_putF w2 12 31 kv2 (by decide) (by decide) trivial
    have w17 : WD Z2 I17 := by rw [e17]; exact WD_putF w16 12 32 kv2 (by decide) (by decide) trivial
    have w18 : WD Z2 I18 := by rw [e18]; exact WD_putF w17 12 33 kv2 (by decide) (by decide) trivial
    have w19 : WD Z2 I19 := by rw [e19]; exact WD_putF w18 12 34 kv2 (by decide) (by decide) trivial
    have fa : FR Ws_X12_lawOf Z I Z2 I2 := f2.mono (by decide)
    have fb : FR Ws_X12_lawOf Z I Z2 I16 := fa.trans wZ.1 wZ.2.1 (by rw [e16]; exact FR_putF kv2 (by decide) (by decide))
    have fc : FR Ws_X12_lawOf Z I Z2 I17 := fb.trans wZ.1 wZ.2.1 (by rw [e17]; exact FR_putF kv2 (by decide) (by decide))
    have fd : FR Ws_X12_lawOf Z I Z2 I18 := fc.trans wZ.1 wZ.2.1 (by rw [e18]; exact FR_putF kv2 (by decide) (by decide))
    have fe : FR Ws_X12_lawOf Z I Z2 I19 := fd.trans wZ.1 wZ.2.1 (by rw [e19]; exact FR_putF kv2 (by decide) (by decide))
    have fg : FR Wm Z0 I0 Z2 I19 := f.trans w0.1 w0.2.1 (fe.mono (by decide))
    have o : ∀ j, j ≠ 31 → j ≠ 32 → j ≠ 33 → j ≠ 34 → I19 v0 j = I2 v0 j := fun j j1 j2 j3 j4 => by rw [e19, jpI_off j4, e18, jpI_off j3, e17, jpI_off j2, e16, jpI_off j1]
    have y31 : (I19 v0 31).toInt = v2.toInt := by rw [e19, jpI_off (by decide), e18, jpI_off (by decide), e17, jpI_off (by decide), e16, jpI_at]
    have y32 : (I19 v0 32).toInt = v3.toInt := by rw [e19, jpI_off (by decide), e18, jpI_off (by decide), e17, jpI_at]
    have y33 : I19 v0 33 = v4 := by rw [e19, jpI_off (by decide), e18, jpI_at]
    have y34 : I19 v0 34 = v5 := by rw [e19, jpI_at]
    have ar9 : ∀ (j b k : Nat), jr Z0 v0 j = some b → jk Z0 b k → jia k = true → j ≠ 23 → (12, j) ∉ Wm → I19 b = I0 b := fun j b k e kb hk hj hn => fg.2.2.2 v0 12 j b kv e (by rw [kb.2]; exact hk) (jsr12 hj) hn
    have x1 := ar9 1 t1 14 h1 k1 rfl (by decide) (by decide)
    have x2 := ar9 2 t2 14 h2 k2 rfl (by decide) (by decide)
    have x3 := ar9 3 t3 14 h3 k3 rfl (by decide) (by decide)
    have x4 := ar9 4 t4 16 h4 k4 rfl (by decide) (by decide)
    have x6 := ar9 6 t6 16 h6 k6 rfl (by decide) (by decide)
    have xX : I19 uX = I0 uX := fg.2.2.2 t29 19 i uX k29 hX (by rw [kX.2]; rfl) (jsr19 hi) not19m
    have rf2 : ∀ (j b : Nat), jr Z0 v0 j = some b → j ≠ 23 → jr Z2 v0 j = some b := fun j b e hj => (fg.2.1 v0 12 j kv (fun q => absurd q.1 (by decide)) (fun q => hj q.2)).trans e
    have S2 : STm Z2 v0 t1 t2 t3 t4 t6 t29 t30 := ⟨kv2, rf2 1 _ h1 (by decide), rf2 2 _ h2 (by decide), rf2 3 _ h3 (by decide), rf2 4 _ h4 (by decide), rf2 6 _ h6 (by decide), rf2 29 _ h29 (by decide), rf2 30 _ h30 (by decide)⟩
    have t : TMl Z2 I19 v0 uX sz := ⟨w19, kv2, p23, kX2, ⟨hs0, by omega, by rw [lX2]; omega⟩, fun I' f' => f'.2.2.2 t29 19 i uX k292 rX2 (by rw [kX2.2]; rfl) (jsr19 hi) not19r⟩
    have st0 : ML Z2 I19 v0 sz I19 0 (-1) := by
      refine ⟨w19, FR.rf, ?_, ?_, ?_, ?_⟩
      · rw [o 26 (by decide) (by decide) (by decide) (by decide)]; exact p26
      · rw [o 27 (by decide) (by decide) (by decide) (by decide)]; exact p27
      · rw [o 24 (by decide) (by decide) (by decide) (by decide), p24]; exact es
      · rw [o 25 (by decide) (by decide) (by decide) (by decide)]; exact p25
    have hl := LTR_of w19 v0 t1 t2 t3 t4 t6 t29 t30 S2 n n24 MN bM (fun v s I9 L9 Q9 w9 f9 ev hs9 hq9 => hM v s Z2 I9 L9 Q9 w9 (fg.trans w0.1 w0.2.1 (f9.mono (by decide))) ev hs9 hq9) v2.toInt v3.toInt v4 v5 y31 b2 y32 b3 y33 y34 sz
    obtain ⟨hp, o1, o2, o3, o4⟩ := lwR_is (f := I0 uX) (s := sz) hs0
    obtain ⟨ok, -, ok3⟩ := lwC_ok hs0 hA
    obtain ⟨q9, -, -⟩ := ok3 (by omega)
    have hc : lwC (I0 uX) sz = (lwR (I0 uX) sz).2.2 := by unfold lwC; rw [if_neg (by omega)]
    refine (MC_all t hl 300).1 100 0 0 (lwR (I0 uX) sz) 0 I19 L2 _ (by rw [xX]; exact hp) st0 (by omega) (by omega) rfl (by omega) (by omega) (fun v I45 L45 s45 hev => ?_)
    refine hQ _ Z2 I45 L45 s45.1 bd2 (fe.trans wZ.1 wZ.2.1 (s45.2.1.mono (by decide))) cp2 ?_
    have hev := hev q9 []
    rw [← hc] at hev
    have hz : ¬ (lwC (I0 uX) sz).length = 0 := fun q => by
      rw [List.length_eq_zero_iff.mp q] at hev
      cases hev
    have hlt : ∀ j, j < 7 → ltrP (I19 t3) (I19 t1) (I19 t2) (wLm (I19 t4)) (xLm MN (I19 t6)) v2.toInt v3.toInt v5.toInt v4.toInt j = ltrP a r s w x v2.toInt v3.toInt v5.toInt v4.toInt j := by
      intro j hj
      have hk : v2.toInt.toNat < n := by omega
      rw [x1, x2, x3, x4, x6]
      unfold ltrP
      rw [ha _ hk, hr _ hk, hs _ hk, hw _ hk, hx v2.toInt v3.toInt b2.1 b2.2 b3.1 b3.2]
    rw [ev_cong hlt _ _ (COk_mem ok)] at hev
    unfold PRf
    rw [ec, if_neg hz, hev]
    rfl
  · have c := (i_eq es z0).mp c
    have hz : (lwC (I0 uX) sz).length = 0 := by
      unfold lwC
      rw [if_pos (by omega)]
      rfl
    have b23 : (v1.toInt = 0 → ¬ w v2.toInt.toNat = 0) → f_X12_lawOf_b23 B Q Z I L := fun h => by
      unfold f_X12_lawOf_b23
      refine hQ 0 Z I L wZ bd FR.rf CP.rf ?_
      unfold PRf
      rw [ec, if_pos hz, if_neg (fun q => h q.1 q.2)]
      rfl
    refine ⟨fun g => b23 (fun q => ?_), fun g => ?_⟩
    · have g := (i_eq (x := v1) rfl z1).mp g
      omega
    · have g := (not_congr (i_eq (x := v1) rfl z1)).mp g
      have hk : v2.toInt.toNat < n := by omega
      have ew := hw _ hk
      intro b28 h28; cases r4.symm.trans h28
      rw [q2, a4]
      refine ⟨vi2, fun g2 => ?_, fun g2 => b23 (fun _ q => ?_)⟩
      · intro b31 h31; cases r3.symm.trans h31
        rw [a3]
        refine ⟨vi2, hQ _ Z I L wZ bd FR.rf CP.rf ?_⟩
        unfold wLm at ew
        rw [if_pos g2] at ew
        unfold PRf
        rw [ec, if_pos hz, if_pos ⟨by omega, ew.symm⟩, ha _ hk]
      · unfold wLm at ew
        rw [if_neg g2, q] at ew
        exact absurd ew (by decide)
end
