/-! ===== the class works a LAW off ===== -/
/-- the stack: the greatest place first -/
def STK (U : Nat → Int32) (st : List Int32) : Prop := ∀ i : Nat, i < st.length → st[i]? = some (U (st.length - 1 - i))
theorem STK_nil {U : Nat → Int32} : STK U [] := fun i hi => absurd hi (Nat.not_lt_zero i)
theorem STK_push {U : Nat → Int32} {st : List Int32} {x : Int32} (h : STK U st) : STK (upd U st.length x) (x :: st) := by
  intro i hi
  have hi : i < st.length + 1 := hi
  cases i with
  | zero =>
    show some x = some (upd U st.length x (st.length + 1 - 1 - 0))
    rw [show st.length + 1 - 1 - 0 = st.length by omega, show upd U st.length x st.length = x from if_pos rfl]
  | succ i =>
    show st[i]? = some (upd U st.length x (st.length + 1 - 1 - (i + 1)))
    rw [h i (by omega), show st.length + 1 - 1 - (i + 1) = st.length - 1 - i by omega, show upd U st.length x (st.length - 1 - i) = U (st.length - 1 - i) from if_neg (by omega)]
theorem STK_top {U : Nat → Int32} {a : Int32} {st : List Int32} (h : STK U (a :: st)) : U st.length = a := by
  have g := h 0 (Nat.zero_lt_succ _)
  have g : some a = some (U (st.length + 1 - 1 - 0)) := g
  rw [show st.length + 1 - 1 - 0 = st.length by omega] at g
  exact (Option.some.inj g).symm
theorem STK_tail {U : Nat → Int32} {a : Int32} {st : List Int32} (h : STK U (a :: st)) : STK U st := by
  intro i hi
  have g := h (i + 1) (Nat.succ_lt_succ hi)
  have g : st[i]? = some (U (st.length + 1 - 1 - (i + 1))) := g
  rw [g, show st.length + 1 - 1 - (i + 1) = st.length - 1 - i by omega]
theorem STK_set {U : Nat → Int32} {a x : Int32} {st : List Int32} (h : STK U (a :: st)) : STK (upd U st.length x) (x :: st) := STK_push (STK_tail h)
/-- numbers, letters and signs as a reader tells them -/
def COk (c : List Int) : Prop := ∀ (i : Nat) (x : Int), c[i]? = some x → 0 ≤ x ∧ x ≤ 2255 ∧ (1000 ≤ x → x < 2000 → x ≤ 1006)
theorem ev1_len {lt : Nat → Int32} {st : List Int32} {x : Int} : (ev1 lt st x).length ≤ st.length + 1 := by
  unfold ev1
  split
  · exact Nat.le_refl _
  · split
    · exact Nat.le_refl _
    · split
      · match st with
        | [] => exact Nat.zero_le _
        | a :: s => exact Nat.le_succ _
      · match st with
        | [] => exact Nat.zero_le _
        | [a] => exact Nat.le_succ _
        | b :: a :: s => show s.length + 1 ≤ s.length + 1 + 1 + 1; omega
theorem take_ev {lt : Nat → Int32} {c : List Int} {i : Nat} {x : Int} (h : c[i]? = some x) : ev lt (c.take (i + 1)) [] = ev1 lt (ev lt (c.take i) []) x := by
  rw [List.take_succ, h, ev_app]
  rfl
theorem c_join {Z : jZ} {I : jI} {L : jL} {s : Int} {v0 a b : Int32} {Q : Int32 → jI → jL → Prop} (e : v0.toInt = s) (hQ : Q (joi s a b) I L) : f_X3_join v0 a b Z I L Q := by
  have k : ∀ (c : Int32) (v : Int), c.toInt = v → (v0 = c ↔ s = v) := fun c v hc => i_eq e hc
  unfold joi at hQ
  unfold f_X3_join
  refine ⟨fun q => ?_, fun q => ?_⟩
  · rw [if_pos ((k 42 42 rfl).mp q)] at hQ; exact hQ
  rw [if_neg (fun g => q ((k 42 42 rfl).mpr g))] at hQ
  refine ⟨fun q => ?_, fun q => ?_⟩
  · rw [if_pos ((k 43 43 rfl).mp q)] at hQ; exact hQ
  rw [if_neg (fun g => q ((k 43 43 rfl).mpr g))] at hQ
  refine ⟨fun q => ?_, fun q => ?_⟩
  · rw [if_pos ((k 45 45 rfl).mp q)] at hQ; exact hQ
  rw [if_neg (fun g => q ((k 45 45 rfl).mpr g))] at hQ
  refine ⟨fun q => ?_, fun q => ?_⟩
  · rw [if_pos ((k 60 60 rfl).mp q)] at hQ
    refine ⟨fun g => ?_, fun g => ?_⟩
    · have g := (i_le (x := b) (y := a) rfl rfl).mp g
      rw [if_neg (fun z => by have := (i_lt (x := a) (y := b) rfl rfl).mp z; omega)] at hQ
      exact hQ
    · have g := (not_congr (i_le (x := b) (y := a) rfl rfl)).mp g
      rw [if_pos ((i_lt (x := a) (y := b) rfl rfl).mpr (by omega))] at hQ
      exact hQ
  rw [if_neg (fun g => q ((k 60 60 rfl).mpr g))] at hQ
  refine ⟨fun q => ?_, fun q => ?_⟩
  · rw [if_pos ((k 61 61 rfl).mp q)] at hQ
    exact ⟨fun g => by rw [if_neg g] at hQ; exact hQ, fun g => by rw [if_pos g] at hQ; exact hQ⟩
  rw [if_neg (fun g => q ((k 61 61 rfl).mpr g))] at hQ
  refine ⟨fun q => ?_, fun q => ?_⟩
  · rw [if_pos ((k 62 62 rfl).mp q)] at hQ
    refine ⟨fun g => ?_, fun g => ?_⟩
    · have g := (i_le (x := a) (y := b) rfl rfl).mp g
      rw [if_neg (fun z => by have := (i_lt (x := b) (y := a) rfl rfl).mp z; omega)] at hQ
      exact hQ
    · have g := (not_congr (i_le (x := a) (y := b) rfl rfl)).mp g
      rw [if_pos ((i_lt (x := b) (y := a) rfl rfl).mpr (by omega))] at hQ
      exact hQ
  rw [if_neg (fun g => q ((k 62 62 rfl).mpr g))] at hQ
  exact ⟨fun g => ⟨g, by rw [if_neg g] at hQ; exact hQ⟩, fun g => by rw [if_pos g] at hQ; exact hQ⟩
def clp (v : Int32) : Int32 := if (0 : Int32) < (if v < (99 : Int32) then v else (99 : Int32)) then (if v < (99 : Int32) then v else (99 : Int32)) else (0 : Int32)
/-- what is left on the stack, put to 0 .. 99 -/
def evT (st : List Int32) : Int32 := match st with | [] => 0 | v :: _ => clp v
set_option maxHeartbeats 4000000 in
theorem c_price {Z : jZ} {I0 : jI} (w0 : WD Z I0) (v0 v1 : Nat) (k0 : jk Z v0 3) (k1 : jk Z v1 14) (l1 : jlen Z v1 = 7) (uC uS : Nat) (hC : jr Z v0 0 = some uC) (hS : jr Z v0 2 = some uS) (n1 : v1 ≠ uS) (c : List Int) (hc : (I0 v0 3).toInt = (c.length : Int)) (h40 : c.length ≤ 40) (hv : ∀ i : Nat, i < c.length → c[i]? = some (I0 uC i).toInt) (hk : COk c) {Q : Int32 → jI → jL → Prop} (hQ : ∀ (I' : jI) (L' : jL), WD Z I' → FR [(3, 2)] Z I0 Z I' → (∀ a, a ≠ uS → I' a = I0 a) → Q (evT (ev (fun j => I0 v1 j) c [])) I' L') :
    ∀ (n p : Nat) (v2 v3 : Int32) (I : jI) (L : jL), WD Z I → FR [(3, 2)] Z I0 Z I → (∀ a, a ≠ uS → I a = I0 a) → v3.toInt = (p : Int) → p ≤ c.length → v2.toInt = ((ev (fun j => I0 v1 j) (c.take p) []).length : Int) → (ev (fun j => I0 v1 j) (c.take p) []).length ≤ p → STK (I uS) (ev (fun j => I0 v1 j) (c.take p) []) → 41 ≤ n + p → f_X3_priceFor_L4 Z Q n v0 v1 v2 v3 I L := by
  obtain ⟨x, ex, kC, lC⟩ := sh_f w0.1 k0 (j := 0) (k := 14) (m := 40) rfl
  cases hC.symm.trans ex
  obtain ⟨x, ex, kS, lS⟩ := sh_f w0.1 k0 (j := 2) (k := 14) (m := 41) rfl
  cases hS.symm.trans ex
  have nC : uC ≠ uS := ds_ne w0.2.1 k0 hC hS rfl rfl (by decide)
  have n0 : v0 ≠ uS := ks_ne k0 kS (by decide)
  have z1 : (1 : Int32).toInt = 1 := rfl
  have zl : (nI (jlen Z v1)).toInt = 7 := by rw [l1]; exact i_nI (n := 7) (by omega)
  intro n
  induction n with
  | zero => intro p v2 v3 I L w f fo e3 hp e2 hl hst hn; omega
  | succ n ih =>
    intro p v2 v3 I L w f fo e3 hp e2 hl hst hn
    have es : (I v0 3).toInt = (c.length : Int) := by rw [fo v0 n0]; exact hc
    have fin : p = c.length → f_X3_priceFor_b156 Z Q v0 v2 I L := by
      intro ep
      have hq := hQ I L w f fo
      rw [ep, List.take_length] at e2 hst
      unfold f_X3_priceFor_b156
      match hE : ev (fun j => I0 v1 j) c [] with
      | [] =>
        rw [hE] at e2 hq
        have e2 : v2.toInt = 0 := e2
        exact ⟨fun q => absurd ((i_eq e2 (show (0 : Int32).toInt = 0 from rfl)).mpr rfl) q, fun _ => hq⟩
      | a :: s =>
        rw [hE] at e2 hq hst
        have e2 : v2.toInt = ((s.length + 1 : Nat) : Int) := e2
        have hs9 : s.length + 1 ≤ p := by
          rw [ep, List.take_length, hE] at hl
          rw [ep]
          exact hl
        refine ⟨fun _ => ?_, fun q => absurd ((i_eq e2 (show (0 : Int32).toInt = 0 from rfl)).mp q) (by omega)⟩
        intro b2 h2
        cases hS.symm.trans h2
        have t1 : (v2 - (1 : Int32)).toInt = (s.length : Int) := (i_sub e2 z1 (by omega) (by omega)).trans (by omega)
        have q1 : (v2 - (1 : Int32)).toNatClampNeg = s.length := by have := i_nat t1 (by omega); omega
        refine ⟨vi_of t1 (by omega) (by omega), ?_⟩
        rw [q1, STK_top hst]
        exact hq
    unfold f_X3_priceFor_L4
    refine ⟨fun q => ?_, fun q => ⟨fun q2 => ?_, fun q2 => ?_⟩⟩
    · have q := (i_le es e3).mp q
      exact fin (by omega)
    · have q2 := (i_le (show (40 : Int32).toInt = 40 from rfl) e3).mp q2
      exact fin (by omega)
    have q := (not_congr (i_le es e3)).mp q
    intro b26 h26
    cases hC.symm.trans h26
    have q3 : v3.toNatClampNeg = p := by have := i_nat e3 (by omega); omega
    refine ⟨vi_of e3 (by omega) (by omega), ?_⟩
    intro x28 e28
    rw [q3, fo uC nC] at e28
    have hx := hv p (by omega)
    rw [← e28] at hx
    obtain ⟨o1, o2, o3⟩ := hk p x28.toInt hx
    have te := take_ev (lt := fun j => I0 v1 j) hx
    have nx : ∀ (v2' : Int32) (I' : jI), WD Z I' → FR [(3, 2)] Z I0 Z I' → (∀ a, a ≠ uS → I' a = I0 a) → v2'.toInt = ((ev1 (fun j => I0 v1 j) (ev (fun j => I0 v1 j) (c.take p) []) x28.toInt).length : Int) → STK (I' uS) (ev1 (fun j => I0 v1 j) (ev (fun j => I0 v1 j) (c.take p) []) x28.toInt) → f_X3_priceFor_b150 (f_X3_priceFor_L4 Z Q n) Z Q v0 v1 v2' v3 I' L := by
      intro v2' I' w' f' fo' e2' st'
      unfold f_X3_priceFor_b150
      intro x4 ex4
      have d4 : x4.toInt = ((p + 1 : Nat) : Int) := by rw [ex4]; exact (i_add e3 z1 (by omega) (by omega)).trans (by omega)
      have l9 := ev1_len (lt := fun j => I0 v1 j) (st := ev (fun j => I0 v1 j) (c.take p) []) (x := x28.toInt)
      exact ih (p + 1) v2' x4 I' L w' f' fo' d4 (by omega) (by rw [te]; exact e2') (by rw [te]; omega) (by rw [te]; exact st') (by omega)
    have put : ∀ (m : Nat) (x : Int32) (J : jI), J = jpI I uS m x → WD Z J ∧ FR [(3, 2)] Z I0 Z J ∧ (∀ a, a ≠ uS → J a = I0 a) ∧ J uS = upd (I uS) m x := by
      intro m x J eJ
      refine ⟨by rw [eJ]; exact WD_putA w 3 2 k0 hS kS rfl rfl (by decide) trivial, f.trans w0.1 w0.2.1 (by rw [eJ]; exact FR_upA w.2.1 k0 hS kS rfl rfl List.mem_cons_self), fun a ha => ?_, by rw [eJ]; exact va_up_self _ _ _⟩
      rw [eJ, jpI_ne ha]
      exact fo a ha
    have push : ∀ x : Int32, ev1 (fun j => I0 v1 j) (ev (fun j => I0 v1 j) (c.take p) []) x28.toInt = x :: ev (fun j => I0 v1 j) (c.take p) [] → f_X3_priceFor_b72 (f_X3_priceFor_L4 Z Q n) Z Q v0 v1 v2 v3 uS v2 x I L := by
      intro x he
      unfold f_X3_priceFor_b72
      refine ⟨by rw [lS]; exact vi_of e2 (by omega) (by omega), ?_⟩
      intro I22 e22 x23 e23
      have q2 : v2.toNatClampNeg = (ev (fun j => I0 v1 j) (c.take p) []).length := by have := i_nat e2 (by omega); omega
      rw [q2] at e22
      obtain ⟨w9, f9, fo9, y9⟩ := put _ _ _ e22
      refine nx x23 I22 w9 f9 fo9 ?_ ?_
      · rw [he, e23]
        exact (i_add e2 z1 (by omega) (by omega)).trans (by show _ = ((_ + 1 : Nat) : Int); omega)
      · rw [he, y9]
        exact STK_push hst
    have op : 2000 ≤ x28.toInt → (x28.toInt = 2000 → ev (fun j => I0 v1 j) (c.take p) [] = []) → f_X3_priceFor_b111 (f_X3_priceFor_L4 Z Q n) Z Q v0 v1 v2 v3 x28 I L := by
      intro g g2
      have he : x28.toInt ≠ 2000 → ev1 (fun j => I0 v1 j) (ev (fun j => I0 v1 j) (c.take p) []) x28.toInt = (match ev (fun j => I0 v1 j) (c.take p) [] with | b :: a :: s => joi (x28.toInt - 2000) a b :: s | s => s) := by
        intro g3
        show (if x28.toInt < 1000 then _ else if x28.toInt < 2000 then _ else if x28.toInt = 2000 then _ else _) = _
        rw [if_neg (by omega), if_neg (by omega), if_neg g3]
        cases ev (fun j => I0 v1 j) (c.take p) [] with
        | nil => rfl
        | cons b t => cases t <;> rfl
      have he0 : x28.toInt = 2000 → ev1 (fun j => I0 v1 j) [] x28.toInt = [] := by
        intro g3
        show (if x28.toInt < 1000 then _ else if x28.toInt < 2000 then _ else if x28.toInt = 2000 then _ else _) = _
        rw [if_neg (by omega), if_neg (by omega), if_pos g3]
      unfold f_X3_priceFor_b111
      match hE : ev (fun j => I0 v1 j) (c.take p) [] with
      | [] =>
        rw [hE] at e2 he nx hst
        have e2 : v2.toInt = 0 := e2
        have hE1 : ev1 (fun j => I0 v1 j) [] x28.toInt = [] := by
          by_cases g3 : x28.toInt = 2000
          · exact he0 g3
          · exact he g3
        refine ⟨fun _ => nx v2 I w f fo (by rw [hE1]; exact e2) (by rw [hE1]; exact hst), fun g3 => ?_⟩
        have g3 := (not_congr (i_le e2 z1)).mp g3
        omega
      | [a] =>
        rw [hE] at e2 he nx hst g2
        have e2 : v2.toInt = 1 := e2
        have g3 : x28.toInt ≠ 2000 := fun g4 => by have := g2 g4; cases this
        have hE1 : ev1 (fun j => I0 v1 j) [a] x28.toInt = [a] := he g3
        refine ⟨fun _ => nx v2 I w f fo (by rw [hE1]; exact e2) (by rw [hE1]; exact hst), fun g3 => ?_⟩
        have g3 := (not_congr (i_le e2 z1)).mp g3
        omega
      | b :: a :: s =>
        rw [hE] at e2 he nx hst g2 hl
        have e2 : v2.toInt = ((s.length + 1 + 1 : Nat) : Int) := e2
        have hl : s.length + 1 + 1 ≤ p := hl
        have g3 : x28.toInt ≠ 2000 := fun g4 => by have := g2 g4; cases this
        have hE1 : ev1 (fun j => I0 v1 j) (b :: a :: s) x28.toInt = joi (x28.toInt - 2000) a b :: s := he g3
        refine ⟨fun g4 => ?_, fun _ => ?_⟩
        · have g4 := (i_le e2 z1).mp g4
          omega
        intro x6 e6 b7 h7 b8 h8
        cases hS.symm.trans h7
        cases hS.symm.trans h8
        have t6 : x6.toInt = ((s.length + 1 : Nat) : Int) := by rw [e6]; exact (i_add e2 (show (-1 : Int32).toInt = -1 from rfl) (by omega) (by omega)).trans (by omega)
        have q6 : x6.toNatClampNeg = s.length + 1 := by have := i_nat t6 (by omega); omega
        have t61 : (x6 - (1 : Int32)).toInt = (s.length : Int) := (i_sub t6 z1 (by omega) (by omega)).trans (by omega)
        have q61 : (x6 - (1 : Int32)).toNatClampNeg = s.length := by have := i_nat t61 (by omega); omega
        refine ⟨vi_of t61 (by omega) (by omega), ?_⟩
        intro b10 h10
        cases hS.symm.trans h10
        refine ⟨vi_of t6 (by omega) (by omega), ?_⟩
        have y1 : I uS (s.length + 1) = b := STK_top (st := a :: s) hst
        have y2 : I uS s.length = a := STK_top (STK_tail hst)
        rw [q6, q61, y1, y2]
        refine c_join (i_sub (x := x28) rfl (show (2000 : Int32).toInt = 2000 from rfl) (by omega) (by omega)) ?_
        refine ⟨vi_of t61 (by omega) (by omega), ?_⟩
        intro I20 e20
        obtain ⟨w9, f9, fo9, y9⟩ := put _ _ _ e20
        refine nx x6 I20 w9 f9 fo9 ?_ ?_
        · rw [hE1]; exact t6
        · rw [hE1, y9]
          exact STK_push (STK_tail (STK_tail hst))
    refine ⟨fun g => ⟨fun g2 => op ?_ (fun g3 => ?_), fun g2 => ⟨fun g3 => op ?_ (fun _ => ?_), fun g3 => ?_⟩⟩, fun g => ?_⟩
    · exact (i_le (show (2000 : Int32).toInt = 2000 from rfl) rfl).mp g
    · exact absurd ((i_eq (x := x28) (y := 2000) rfl rfl).mpr g3) g2
    · exact (i_le (show (2000 : Int32).toInt = 2000 from rfl) rfl).mp g
    · have g3 := (i_le e2 (show (0 : Int32).toInt = 0 from rfl)).mp g3
      match hE : ev (fun j => I0 v1 j) (c.take p) [] with
      | [] => rfl
      | a :: s =>
        rw [hE] at g3
        have g3 : ((s.length + 1 : Nat) : Int) ≤ 0 := g3
        omega
    · have g2 := (i_eq (x := x28) (y := 2000) rfl rfl).mp g2
      have g2 : x28.toInt = 2000 := g2
      have g3 := (not_congr (i_le e2 (show (0 : Int32).toInt = 0 from rfl))).mp g3
      intro b32 h32 b33 h33
      cases hS.symm.trans h32
      cases hS.symm.trans h33
      match hE : ev (fun j => I0 v1 j) (c.take p) [] with
      | [] =>
        rw [hE] at g3
        exact absurd (Int.le_refl 0) g3
      | a :: s =>
        rw [hE] at e2 hst nx hl
        have e2 : v2.toInt = ((s.length + 1 : Nat) : Int) := e2
        have hl : s.length + 1 ≤ p := hl
        have t1 : (v2 - (1 : Int32)).toInt = (s.length : Int) := (i_sub e2 z1 (by omega) (by omega)).trans (by omega)
        have q1 : (v2 - (1 : Int32)).toNatClampNeg = s.length := by have := i_nat t1 (by omega); omega
        refine ⟨vi_of t1 (by omega) (by omega), vi_of t1 (by omega) (by omega), ?_⟩
        intro I36 e36
        rw [q1, STK_top hst] at e36
        obtain ⟨w9, f9, fo9, y9⟩ := put _ _ _ e36
        have hE1 : ev1 (fun j => I0 v1 j) (a :: s) x28.toInt = (-a) :: s := by
          show (if x28.toInt < 1000 then _ else if x28.toInt < 2000 then _ else if x28.toInt = 2000 then _ else _) = _
          rw [if_neg (by omega), if_neg (by omega), if_pos g2]
        refine nx v2 I36 w9 f9 fo9 ?_ ?_
        · rw [hE1]; exact e2
        · rw [hE1, y9]
          exact STK_set hst
    · have g := (not_congr (i_le (show (2000 : Int32).toInt = 2000 from rfl) (y := x28) rfl)).mp g
      intro x37 e37 b38 h38
      cases hS.symm.trans h38
      have t37 : x37.toInt = x28.toInt - 1000 := by rw [e37]; exact i_sub rfl (show (1000 : Int32).toInt = 1000 from rfl) (by omega) (by omega)
      refine ⟨fun g2 => ⟨fun g3 => ?_, fun g3 => ?_⟩, fun g2 => ?_⟩
      · have g2 := (i_le (show (0 : Int32).toInt = 0 from rfl) t37).mp g2
        have g3 := (i_le zl t37).mp g3
        have := o3 (by omega) (by omega)
        omega
      · have g2 := (i_le (show (0 : Int32).toInt = 0 from rfl) t37).mp g2
        have g3 := (not_congr (i_le zl t37)).mp g3
        refine ⟨by rw [l1]; exact vi_of t37 (by omega) (by omega), push _ ?_⟩
        have q37 : x37.toNatClampNeg = (x28.toInt - 1000).toNat := by have := i_nat t37 (by omega); omega
        show (if x28.toInt < 1000 then _ else if x28.toInt < 2000 then _ else if x28.toInt = 2000 then _ else _) = _
        rw [if_neg (by omega), if_pos (by omega), fo v1 n1, q37]
      · have g2 := (not_congr (i_le (show (0 : Int32).toInt = 0 from rfl) t37)).mp g2
        refine push _ ?_
        show (if x28.toInt < 1000 then _ else if x28.toInt < 2000 then _ else if x28.toInt = 2000 then _ else _) = _
        rw [if_pos (by omega), Int32.ofInt_toInt]
theorem s18_X3_priceFor {Z : jZ} {I : jI} {L : jL} (w : WD Z I) (v0 v1 : Nat) (k0 : jk Z v0 3) (k1 : jk Z v1 14) (l1 : jlen Z v1 = 7) (uC uS : Nat) (hC : jr Z v0 0 = some uC) (hS : jr Z v0 2 = some uS) (n1 : v1 ≠ uS) (c : List Int) (hc : (I v0 3).toInt = (c.length : Int)) (h40 : c.length ≤ 40) (hv : ∀ i : Nat, i < c.length → c[i]? = some (I uC i).toInt) (hk : COk c) {Q : Int32 → jI → jL → Prop} (hQ : ∀ (I' : jI) (L' : jL), WD Z I' → FR [(3, 2)] Z I Z I' → (∀ a, a ≠ uS → I' a = I a) → Q (evT (ev (fun j => I v1 j) c [])) I' L') : f_X3_priceFor v0 v1 Z I L Q := by
  unfold f_X3_priceFor
  exact ⟨41, c_price w v0 v1 k0 k1 l1 uC uS hC hS n1 c hc h40 hv hk hQ 41 0 0 0 I L w FR.rf (fun _ _ => rfl) rfl (Nat.zero_le _) (by rw [List.take_zero]; rfl) (by rw [List.take_zero]; exact Nat.le_refl _) (by rw [List.take_zero]; exact STK_nil) (by omega)⟩
/-! ===== what a LAW's numbers keep to; the letters that it names ===== -/
def okc (x : Int) : Prop := 0 ≤ x ∧ x ≤ 2255 ∧ (1000 ≤ x → x < 2000 → x ≤ 1006)
theorem okc_op {x : Int} (h : 0 ≤ x ∧ x ≤ 255) : okc (2000 + x) := ⟨by omega, by omega, fun _ q => by omega⟩
theorem mem2 {α : Type} {a b : List α} {x : α} {P : α → Prop} (h1 : ∀ x ∈ a, P x) (h2 : ∀ x ∈ b, P x) (h : x ∈ a ++ b) : P x := (List.mem_append.mp h).elim (h1 x) (h2 x)
theorem mem1 {α : Type} {a x : α} {P : α → Prop} (h1 : P a) (h : x ∈ [a]) : P x := by
  cases List.mem_singleton.mp h
  exact h1
set_option maxHeartbeats 2000000 in
theorem PL_cok {g : Int → Int} : ∀ (d w k : Nat) (a : Int) (r : Int × Int × List Int), w < 8 → PL g d w k a = some r → r.2.1 = -1 → ∀ x ∈ r.2.2, okc x := by
  intro d
  induction d with
  | zero => intro w k a r hw h; cases h
  | succ d ih =>
    intro w k a r hw h hr
    match w, hw with
    | 0, _ =>
      obtain ⟨s, e, h⟩ := PL_i0 h
      rcases h with ⟨c, c2, t, e', rfl⟩ | ⟨c, rfl⟩
      · intro x hx
        exact mem2 (fun x => mem2 (ih 1 k a s (by omega) e c) (ih 1 k _ t (by omega) e' hr)) (fun x => mem1 (okc_op (by omega))) hx
      · exact ih 1 k a r (by omega) e hr
    | 1, _ =>
      obtain ⟨s, e, h⟩ := PL_i1 h
      rcases h with ⟨c, t, e', rfl⟩ | ⟨c, rfl⟩
      · intro x hx
        exact mem2 (ih 2 k a s (by omega) e c) (ih 4 k _ t (by omega) e' hr) hx
      · exact absurd hr c
    | 2, _ =>
      obtain ⟨s, e, h⟩ := PL_i2 h
      rcases h with ⟨c, t, e', rfl⟩ | ⟨c, rfl⟩
      · intro x hx
        exact mem2 (ih 3 k a s (by omega) e c) (ih 5 k _ t (by omega) e' hr) hx
      · exact absurd hr c
    | 3, _ =>
      rcases PL_i3 h with ⟨c, h⟩ | ⟨c, h⟩
      · exact ih 7 k _ r (by omega) h hr
      · exact ih 6 k _ r (by omega) h hr
    | 4, _ =>
      rcases PL_i4 h with ⟨c, s, e, h⟩ | ⟨c, rfl⟩
      · rcases h with ⟨c2, t, e', rfl⟩ | ⟨c2, rfl⟩
        · intro x hx
          exact mem2 (fun x => mem2 (ih 2 k _ s (by omega) e c2) (fun x => mem1 (okc_op (by omega)))) (ih 4 k _ t (by omega) e' hr) hx
        · exact absurd hr c2
      · intro x hx
        exact absurd hx (List.not_mem_nil)
    | 5, _ =>
      rcases PL_i5 h with ⟨c, s, e, h⟩ | ⟨c, rfl⟩
      · rcases h with ⟨c2, t, e', rfl⟩ | ⟨c2, rfl⟩
        · intro x hx
          exact mem2 (fun x => mem2 (ih 3 k _ s (by omega) e c2) (fun x => mem1 (okc_op (by omega)))) (ih 5 k _ t (by omega) e' hr) hx
        · exact absurd hr c2
      · intro x hx
        exact absurd hx (List.not_mem_nil)
    | 6, _ =>
      rcases PL_i6 h with ⟨c, rfl⟩ | ⟨c, c1, rfl⟩ | ⟨c, c1, c2, s, e, h⟩ | ⟨c, c1, c2, rfl⟩
      · have nv := N3_val (n3_is (g := g) (a := a))
        intro x hx
        exact mem1 (show okc (nvd g a (n3 g a)) from ⟨by omega, by omega, fun q => by omega⟩) hx
      · have lr := lix_rng (g a)
        intro x hx
        exact mem1 (show okc (1000 + lix (g a)) from ⟨by omega, by omega, fun _ _ => by omega⟩) hx
      · rcases h with ⟨c3, c4, rfl⟩ | ⟨c3, c4, rfl⟩ | ⟨c3, rfl⟩
        · exact ih 0 (k + 1) _ s (by omega) e c3
        · intro x hx
          exact absurd hx (List.not_mem_nil)
        · exact absurd hr c3
      · intro x hx
        exact absurd hx (List.not_mem_nil)
    | 7, _ =>
      rcases PL_i7 h with ⟨c, h⟩ | ⟨c, s, e, rfl⟩
      · exact ih 3 k _ r (by omega) h hr
      · intro x hx
        exact mem2 (ih 6 k a s (by omega) e hr) (fun x => mem1 (show okc 2000 from ⟨by omega, by omega, fun _ q => by omega⟩)) hx
theorem COk_of {c : List Int} (h : ∀ x ∈ c, okc x) : COk c := fun _ x hx => h x (List.mem_of_getElem? hx)
/-- the numbers of a text of s signs; nothing told: none -/
noncomputable def lwC (f : Nat → Int32) (s : Int) : List Int := if s ≤ 0 then [] else (lwR f s).2.2
theorem lwC_ok {f : Nat → Int32} {s : Int} (h0 : 0 ≤ s) (h : lwA f s = 0) : COk (lwC f s) ∧ (lwC f s).length ≤ 40 ∧ (0 < s → (lwR f s).2.1 = -1 ∧ (lwR f s).1 = s ∧ s ≤ 40) := by
  unfold lwC
  by_cases c : s ≤ 0
  · rw [if_pos c]
    exact ⟨fun i x hx => (by cases hx), Nat.zero_le _, fun q => by omega⟩
  · rw [if_neg c]
    obtain ⟨hp, o1, o2, o3, o4⟩ := lwR_is (f := f) (s := s) h0
    unfold lwA at h
    rw [if_neg c] at h
    by_cases q : (lwR f s).2.1 = -1
    · rw [if_pos q] at h
      by_cases q2 : (lwR f s).1 < s
      · rw [if_pos q2] at h; omega
      · obtain ⟨o5, o6⟩ := o4 q
        have o6 : ((lwR f s).2.2.length : Int) + 0 ≤ (lwR f s).1 + 0 := o6
        exact ⟨COk_of (PL_cok 300 0 0 0 _ (by omega) hp q), by omega, fun _ => ⟨q, by omega, by omega⟩⟩
    · rw [if_neg q] at h
      rcases o3 with o3 | o3
      · exact absurd o3 q
      · omega
/-! ===== climbs: ways, their sums ===== -/
/-- the bit of a place (1 .. 24) -/
def btP (p : Nat) : Int := ((2 ^ (24 - p) : Nat) : Int)
theorem btP_pos (p : Nat) : 1 ≤ btP p := by
  have h : 0 < 2 ^ (24 - p) := Nat.pow_pos (by decide)
  unfold btP
  omega
theorem btP_step {p : Nat} (h : p + 1 ≤ 24) : btP p = 2 * btP (p + 1) := by
  unfold btP
  rw [show 24 - p = (24 - (p + 1)) + 1 by omega, Nat.pow_succ]
  omega
theorem btP_less {p : Nat} (hp : p ≤ 24) : ∀ d, 1 ≤ d → d ≤ p → 2 * btP p ≤ btP (p - d) := by
  intro d
  induction d with
  | zero => intro h; omega
  | succ d ih =>
    intro _ h
    by_cases c : d = 0
    · subst c
      have e := btP_step (p := p - 1) (by omega)
      rw [show p - 1 + 1 = p by omega] at e
      show 2 * btP p ≤ btP (p - 1)
      omega
    · have g := ih (by omega) (by omega)
      have e := btP_step (p := p - (d + 1)) (by omega)
      rw [show p - (d + 1) + 1 = p - d by omega] at e
      have := btP_pos p
      omega
/-- a way of m moves from place q to place p: cost, effort, bits of what is trodden -/
def PX (lp : Nat) (op : Nat → Prop) (C E : Nat → Nat → Int) : Nat → Nat → Nat → Int → Int → Int → Prop
  | 0, q, p, c, e, b => q = p ∧ c = 0 ∧ e = 0 ∧ b = 0
  | m + 1, q, p, c, e, b => ∃ far, 1 ≤ far ∧ far ≤ lp ∧ far ≤ p ∧ op p ∧ PX lp op C E m q (p - far) (c - C p far) (e - E p far) (b - btP p)
theorem PX_cast {lp : Nat} {op : Nat → Prop} {C E : Nat → Nat → Int} {m q q' p p' : Nat} {c c' e e' b b' : Int} (h : PX lp op C E m q p c e b) (hq : q = q') (hp : p = p') (hc : c = c') (he : e = e') (hb : b = b') : PX lp op C E m q' p' c' e' b' := by
  subst hq; subst hp; subst hc; subst he; subst hb
  exact h
theorem PX_le {lp : Nat} {op : Nat → Prop} {C E : Nat → Nat → Int} : ∀ (m q p : Nat) (c e b : Int), PX lp op C E m q p c e b → q + m ≤ p := by
  intro m
  induction m with
  | zero => intro q p c e b h; have := h.1; omega
  | succ m ih =>
    intro q p c e b h
    obtain ⟨far, h1, h2, h3, h4, h5⟩ := h
    have := ih _ _ _ _ _ h5
    omega
/-- by its first move -/
theorem PX_head {lp : Nat} {op : Nat → Prop} {C E : Nat → Nat → Int} : ∀ (m q p : Nat) (c e b : Int), PX lp op C E (m + 1) q p c e b → ∃ far, 1 ≤ far ∧ far ≤ lp ∧ op (q + far) ∧ PX lp op C E m (q + far) p (c - C (q + far) far) (e - E (q + far) far) (b - btP (q + far)) := by
  intro m
  induction m with
  | zero =>
    intro q p c e b h
    obtain ⟨far, h1, h2, h3, h4, h5⟩ := h
    obtain ⟨e1, e2, e3, e4⟩ := h5
    have ep : q + far = p := by omega
    refine ⟨far, h1, h2, by rw [ep]; exact h4, ?_⟩
    rw [ep]
    exact ⟨rfl, e2, e3, e4⟩
  | succ m ih =>
    intro q p c e b h
    obtain ⟨far, h1, h2, h3, h4, h5⟩ := h
    obtain ⟨f1, g1, g2, g3, g4⟩ := ih _ _ _ _ _ h5
    refine ⟨f1, g1, g2, g3, far, h1, h2, h3, h4, ?_⟩
    exact PX_cast g4 rfl rfl (by omega) (by omega) (by omega)
theorem PX_cons {lp : Nat} {op : Nat → Prop} {C E : Nat → Nat → Int} : ∀ (m q p far : Nat) (c e b : Int), 1 ≤ far → far ≤ lp → op (q + far) → PX lp op C E m (q + far) p (c - C (q + far) far) (e - E (q + far) far) (b - btP (q + far)) → PX lp op C E (m + 1) q p c e b := by
  intro m
  induction m with
  | zero =>
    intro q p far c e b h1 h2 h3 h4
    obtain ⟨e1, e2, e3, e4⟩ := h4
    rw [e1] at e2 e3 e4 h3
    exact ⟨far, h1, h2, by omega, h3, by omega, e2, e3, e4⟩
  | succ m ih =>
    intro q p far c e b h1 h2 h3 h4
    obtain ⟨f1, g1, g2, g3, g4, g5⟩ := h4
    refine ⟨f1, g1, g2, g3, g4, ih q (p - f1) far _ _ _ h1 h2 h3 ?_⟩
    exact PX_cast g5 rfl rfl (by omega) (by omega) (by omega)
/-- bits stay behind -/
theorem PX_bits {lp : Nat} {op : Nat → Prop} {C E : Nat → Nat → Int} : ∀ (m q p : Nat) (c e b : Int), p ≤ 24 → PX lp op C E m q p c e b → 0 ≤ b ∧ b ≤ btP q - btP p := by
  intro m
  induction m with
  | zero =>
    intro q p c e b hp h
    obtain ⟨e1, -, -, e4⟩ := h
    subst e1
    omega
  | succ m ih =>
    intro q p c e b hp h
    obtain ⟨far, h1, h2, h3, h4, h5⟩ := h
    have g := ih _ _ _ _ _ (by omega) h5
    have l := btP_less hp far h1 h3
    have := btP_pos p
    omega
/-- costs and efforts are not below 0, and not too great -/
theorem PX_sums {lp : Nat} {op : Nat → Prop} {C E : Nat → Nat → Int} {tc te : Int} (hC : ∀ p f, 0 ≤ C p f ∧ C p f ≤ tc) (hE : ∀ p f, 0 ≤ E p f ∧ E p f ≤ te) : ∀ (m q p : Nat) (c e b : Int), PX lp op C E m q p c e b → 0 ≤ c ∧ c ≤ tc * (m : Int) ∧ 0 ≤ e ∧ e ≤ te * (m : Int) := by
  intro m
  induction m with
  | zero =>
    intro q p c e b h
    obtain ⟨-, e2, e3, -⟩ := h
    subst e2; subst e3
    rw [show ((0 : Nat) : Int) = 0 from rfl, Int.mul_zero, Int.mul_zero]
    omega
  | succ m ih =>
    intro q p c e b h
    obtain ⟨far, h1, h2, h3, h4, h5⟩ := h
    have g := ih _ _ _ _ _ h5
    have a := hC p far
    have a2 := hE p far
    rw [show ((m + 1 : Nat) : Int) = (m : Int) + 1 from rfl, Int.mul_add, Int.mul_add, Int.mul_one, Int.mul_one]
    omega
/-! keys: cost, effort, moves, bits -/
def kf (m : Nat) (c e b : Int) : Int := c * 2199023255552 + e * 536870912 + (m : Int) * 16777216 + 16777215 - b
def cK (k : Int) : Int := k / 2199023255552
def eK (k : Int) : Int := k / 536870912 % 4096
def mK (k : Int) : Int := k / 16777216 % 32
theorem kf_cost {m : Nat} {c e b : Int} (hm : m ≤ 24) (he : 0 ≤ e ∧ e ≤ 4095) (hb : 0 ≤ b ∧ b ≤ 16777215) : cK (kf m c e b) = c := by
  unfold cK kf
  omega
theorem kf_eff {m : Nat} {c e b : Int} (hm : m ≤ 24) (he : 0 ≤ e ∧ e ≤ 4095) (hb : 0 ≤ b ∧ b ≤ 16777215) : eK (kf m c e b) = e := by
  unfold eK kf
  omega
theorem kf_mov {m : Nat} {c e b : Int} (hm : m ≤ 24) (hb : 0 ≤ b ∧ b ≤ 16777215) : mK (kf m c e b) = (m : Int) := by
  unfold mK kf
  omega
theorem cK_mono {a b : Int} (h : a ≤ b) : cK a ≤ cK b := by
  unfold cK
  omega
theorem eK_rng (k : Int) : 0 ≤ eK k ∧ eK k ≤ 4095 := by
  unfold eK
  omega
/-- the order of keys -/
theorem kf_lex {m m' : Nat} {c c' e e' b b' : Int} (hm : m ≤ 24) (hm' : m' ≤ 24) (he : 0 ≤ e ∧ e ≤ 4095) (he' : 0 ≤ e' ∧ e' ≤ 4095) (hb : 0 ≤ b ∧ b ≤ 16777215) (hb' : 0 ≤ b' ∧ b' ≤ 16777215) : kf m c e b ≤ kf m' c' e' b' ↔ c < c' ∨ (c = c' ∧ (e < e' ∨ (e = e' ∧ (m < m' ∨ (m = m' ∧ b' ≤ b))))) := by
  unfold kf
  omega
/-! rows merged -/
def BIG : Int := 9223372036854775807
def hdB (l : List Int) : Int := match l with
  | [] => BIG
  | x :: _ => x
def wh (h : Nat → Int) : Nat → Nat
  | 0 => 0
  | j + 1 => if h (j + 1) < h (wh h j) then j + 1 else wh h j
theorem wh_le (h : Nat → Int) : ∀ j, wh h j ≤ j := by
  intro j
  induction j with
  | zero => exact Nat.le_refl _
  | succ j ih =>
    show (if h (j + 1) < h (wh h j) then j + 1 else wh h j) ≤ j + 1
    split <;> omega
theorem wh_min (h : Nat → Int) : ∀ j i, i ≤ j → h (wh h j) ≤ h i := by
  intro j
  induction j with
  | zero =>
    intro i hi
    have : i = 0 := by omega
    subst this
    exact Int.le_refl _
  | succ j ih =>
    intro i hi
    show h (if h (j + 1) < h (wh h j) then j + 1 else wh h j) ≤ h i
    by_cases c : h (j + 1) < h (wh h j)
    · rw [if_pos c]
      by_cases ci : i = j + 1
      · rw [ci]; exact Int.le_refl _
      · have := ih i (by omega)
        omega
    · rw [if_neg c]
      by_cases ci : i = j + 1
      · rw [ci]; omega
      · exact ih i (by omega)
def tkS (S : Nat → List Int) (i : Nat) : Nat → List Int := fun j => if j = i then (S j).tail else S j
def cnS (S : Nat → List Int) : Nat → Nat
  | 0 => 0
  | j + 1 => cnS S j + (S j).length
theorem cnS_tk {S : Nat → List Int} {i : Nat} (h : (S i).length ≠ 0) : ∀ j, (j ≤ i → cnS (tkS S i) j = cnS S j) ∧ (i < j → cnS (tkS S i) j + 1 = cnS S j) := by
  intro j
  induction j with
  | zero => exact ⟨fun _ => rfl, fun q => absurd q (Nat.not_lt_zero i)⟩
  | succ j ih =>
    have e1 : cnS (tkS S i) (j + 1) = cnS (tkS S i) j + (tkS S i j).length := rfl
    have e2 : cnS S (j + 1) = cnS S j + (S j).length := rfl
    by_cases c : j = i
    · have e3 : (tkS S i j).length = (S i).length - 1 := by
        rw [c]
        show (if i = i then (S i).tail else S i).length = _
        rw [if_pos rfl, List.length_tail]
      have e4 : (S j).length = (S i).length := by rw [c]
      have := ih.1 (by omega)
      exact ⟨fun q => by omega, fun _ => by omega⟩
    · have e3 : (tkS S i j).length = (S j).length := by
        show (if j = i then (S j).tail else S j).length = _
        rw [if_neg c]
      refine ⟨fun q => ?_, fun q => ?_⟩
      · have := ih.1 (by omega); omega
      · have := ih.2 (by omega); omega
theorem cnS_pos {S : Nat → List Int} {i : Nat} (h : (S i).length ≠ 0) : ∀ j, i < j → 1 ≤ cnS S j := fun j hj => by
  have := (cnS_tk h j).2 hj
  omega
/-- what is kept of the rows 0 .. j -/
def kc (P : Int) (j : Nat) : Nat → (Nat → List Int) → Int → List Int
  | 0, _, _ => []
  | f + 1, S, lim => if lim < 0 then [] else if P < cK (hdB (S (wh (fun i => hdB (S i)) j))) then [] else if eK (hdB (S (wh (fun i => hdB (S i)) j))) ≤ lim then hdB (S (wh (fun i => hdB (S i)) j)) :: kc P j f (tkS S (wh (fun i => hdB (S i)) j)) (eK (hdB (S (wh (fun i => hdB (S i)) j))) - 1) else kc P j f (tkS S (wh (fun i => hdB (S i)) j)) lim
def srt (l : List Int) : Prop := l.Pairwise (· ≤ ·)
theorem srt_head {l : List Int} {x : Int} (h : srt l) (hx : x ∈ l) : hdB l ≤ x := by
  match l, h, hx with
  | y :: t, h, hx =>
    show y ≤ x
    rcases List.mem_cons.mp hx with e | e
    · rw [e]; exact Int.le_refl _
    · exact (List.pairwise_cons.mp h).1 x e
theorem srt_tail {l : List Int} (h : srt l) : srt l.tail := by
  match l, h with
  | [], h => exact h
  | y :: t, h => exact (List.pairwise_cons.mp h).2
theorem tk_mem {S : Nat → List Int} {i j : Nat} {x : Int} (h : x ∈ tkS S i j) : x ∈ S j := by
  unfold tkS at h
  by_cases c : j = i
  · rw [if_pos c] at h; exact List.mem_of_mem_tail h
  · rw [if_neg c] at h; exact h
theorem tk_srt {S : Nat → List Int} {i : Nat} (h : ∀ j, srt (S j)) : ∀ j, srt (tkS S i j) := by
  intro j
  unfold tkS
  split
  · exact srt_tail (h j)
  · exact h j
theorem hd_mem {l : List Int} (h : l.length ≠ 0) : hdB l ∈ l := by
  match l, h with
  | y :: t, _ => exact List.mem_cons_self
theorem tk_or {S : Nat → List Int} {i j : Nat} {x : Int} (h : x ∈ S j) : (j = i ∧ x = hdB (S i)) ∨ x ∈ tkS S i j := by
  by_cases c : j = i
  · match hl : S j, h with
    | y :: t, h =>
      rcases List.mem_cons.mp h with e | e
      · exact Or.inl ⟨c, by rw [← c, hl]; exact e⟩
      · right
        unfold tkS
        rw [if_pos c, hl]
        exact e
  · right
    unfold tkS
    rw [if_neg c]
    exact h
/-- the place of the least head is not empty, if something waits -/
theorem wh_ne {S : Nat → List Int} {j i : Nat} {x : Int} (hs : ∀ i, srt (S i)) (hi : i ≤ j) (hx : x ∈ S i) (hB : x < BIG) : (S (wh (fun i => hdB (S i)) j)).length ≠ 0 ∧ hdB (S (wh (fun i => hdB (S i)) j)) ≤ x := by
  have h1 := wh_min (fun i => hdB (S i)) j i hi
  have h2 := srt_head (hs i) hx
  have h3 : hdB (S (wh (fun i => hdB (S i)) j)) ≤ x := Int.le_trans h1 h2
  refine ⟨fun q => ?_, h3⟩
  rw [List.eq_nil_of_length_eq_zero q] at h3
  have h3 : BIG ≤ x := h3
  omega
set_option maxHeartbeats 1000000 in
theorem kc_in {P : Int} {j : Nat} : ∀ (f : Nat) (S : Nat → List Int) (lim : Int) (y : Int), f ≤ cnS S (j + 1) → (∀ i, srt (S i)) → (∀ i x, x ∈ S i → x < BIG) → y ∈ kc P j f S lim → (∃ i, i ≤ j ∧ y ∈ S i) ∧ eK y ≤ lim ∧ cK y ≤ P := by
  intro f
  induction f with
  | zero => intro S lim y hf hs hB h; exact absurd h List.not_mem_nil
  | succ f ih =>
    intro S lim y hf hs hB h
    have hne : (S (wh (fun i => hdB (S i)) j)).length ≠ 0 := by
      obtain ⟨i, hi, hl⟩ : ∃ i, i ≤ j ∧ (S i).length ≠ 0 := by
        refine Classical.byContradiction (fun q => ?_)
        have z : ∀ k, k ≤ j + 1 → cnS S k = 0 := by
          intro k
          induction k with
          | zero => intro _; rfl
          | succ k ihk =>
            intro hk
            show cnS S k + (S k).length = 0
            rw [ihk (by omega)]
            have : (S k).length = 0 := Classical.byContradiction (fun q2 => q ⟨k, by omega, q2⟩)
            omega
        have := z (j + 1) (Nat.le_refl _)
        omega
      exact (wh_ne hs hi (hd_mem hl) (hB i _ (hd_mem hl))).1
    have hc := (cnS_tk hne (j + 1)).2 (Nat.lt_succ_of_le (wh_le _ j))
    have up : ∀ lim', y ∈ kc P j f (tkS S (wh (fun i => hdB (S i)) j)) lim' → (∃ i, i ≤ j ∧ y ∈ S i) ∧ eK y ≤ lim' ∧ cK y ≤ P := by
      intro lim' hy
      obtain ⟨⟨i, hi, hm⟩, g2, g3⟩ := ih _ lim' y (by omega) (tk_srt hs) (fun i x hx => hB i x (tk_mem hx)) hy
      exact ⟨⟨i, hi, tk_mem hm⟩, g2, g3⟩
    have h : y ∈ (if lim < 0 then [] else if P < cK (hdB (S (wh (fun i => hdB (S i)) j))) then [] else if eK (hdB (S (wh (fun i => hdB (S i)) j))) ≤ lim then hdB (S (wh (fun i => hdB (S i)) j)) :: kc P j f (tkS S (wh (fun i => hdB (S i)) j)) (eK (hdB (S (wh (fun i => hdB (S i)) j))) - 1) else kc P j f (tkS S (wh (fun i => hdB (S i)) j)) lim) := h
    by_cases c1 : lim < 0
    · rw [if_pos c1] at h; exact absurd h List.not_mem_nil
    rw [if_neg c1] at h
    by_cases c2 : P < cK (hdB (S (wh (fun i => hdB (S i)) j)))
    · rw [if_pos c2] at h; exact absurd h List.not_mem_nil
    rw [if_neg c2] at h
    by_cases c3 : eK (hdB (S (wh (fun i => hdB (S i)) j))) ≤ lim
    · rw [if_pos c3] at h
      rcases List.mem_cons.mp h with e | e
      · rw [e]
        exact ⟨⟨_, wh_le _ j, hd_mem hne⟩, c3, by omega⟩
      · obtain ⟨g1, g2, g3⟩ := up _ e
        exact ⟨g1, by omega, g3⟩
    · rw [if_neg c3] at h
      exact up _ h
set_option maxHeartbeats 1000000 in
theorem kc_all {P : Int} {j : Nat} : ∀ (f : Nat) (S : Nat → List Int) (lim : Int) (i : Nat) (x : Int), f = cnS S (j + 1) → (∀ i, srt (S i)) → (∀ i x, x ∈ S i → x < BIG) → i ≤ j → x ∈ S i → eK x ≤ lim → cK x ≤ P → ∃ y, y ∈ kc P j f S lim ∧ y ≤ x ∧ eK y ≤ eK x := by
  intro f
  induction f with
  | zero =>
    intro S lim i x hf hs hB hi hx he hc
    have : (S i).length ≠ 0 := fun q => by
      rw [List.eq_nil_of_length_eq_zero q] at hx
      exact absurd hx List.not_mem_nil
    have := cnS_pos this (j + 1) (by omega)
    omega
  | succ f ih =>
    intro S lim i x hf hs hB hi hx he hc
    obtain ⟨hne, hle⟩ := wh_ne (j := j) hs hi hx (hB i x hx)
    have hcn := (cnS_tk hne (j + 1)).2 (Nat.lt_succ_of_le (wh_le _ j))
    have er := eK_rng x
    have ck := cK_mono hle
    have e : kc P j (f + 1) S lim = (if lim < 0 then [] else if P < cK (hdB (S (wh (fun i => hdB (S i)) j))) then [] else if eK (hdB (S (wh (fun i => hdB (S i)) j))) ≤ lim then hdB (S (wh (fun i => hdB (S i)) j)) :: kc P j f (tkS S (wh (fun i => hdB (S i)) j)) (eK (hdB (S (wh (fun i => hdB (S i)) j))) - 1) else kc P j f (tkS S (wh (fun i => hdB (S i)) j)) lim) := rfl
    rw [if_neg (by omega), if_neg (by omega)] at e
    have rest : ∀ lim', eK x ≤ lim' → x ∈ tkS S (wh (fun i => hdB (S i)) j) i → ∃ y, y ∈ kc P j f (tkS S (wh (fun i => hdB (S i)) j)) lim' ∧ y ≤ x ∧ eK y ≤ eK x := fun lim' h1 h2 => ih _ lim' i x (by omega) (tk_srt hs) (fun i x hx => hB i x (tk_mem hx)) hi h2 h1 hc
    rw [e]
    by_cases c3 : eK (hdB (S (wh (fun i => hdB (S i)) j))) ≤ lim
    · rw [if_pos c3]
      by_cases c4 : eK (hdB (S (wh (fun i => hdB (S i)) j))) ≤ eK x
      · exact ⟨_, List.mem_cons_self, hle, c4⟩
      · rcases tk_or (i := wh (fun i => hdB (S i)) j) hx with ⟨-, ex⟩ | hx2
        · rw [← ex] at c4; omega
        · obtain ⟨y, hy, g⟩ := rest (eK (hdB (S (wh (fun i => hdB (S i)) j))) - 1) (by omega) hx2
          exact ⟨y, List.mem_cons_of_mem _ hy, g⟩
    · rw [if_neg c3]
      rcases tk_or (i := wh (fun i => hdB (S i)) j) hx with ⟨-, ex⟩ | hx2
      · rw [← ex] at c3; omega
      · exact rest _ he hx2
set_option maxHeartbeats 1000000 in
/-- what is kept gets dearer and easier -/
theorem kc_srt {P : Int} {j : Nat} : ∀ (f : Nat) (S : Nat → List Int) (lim : Int), f ≤ cnS S (j + 1) → (∀ i, srt (S i)) → (∀ i x, x ∈ S i → x < BIG) → (kc P j f S lim).Pairwise (fun a b => a < b ∧ eK b < eK a) := by
  intro f
  induction f with
  | zero => intro S lim hf hs hB; exact List.Pairwise.nil
  | succ f ih =>
    intro S lim hf hs hB
    have e : kc P j (f + 1) S lim = (if lim < 0 then [] else if P < cK (hdB (S (wh (fun i => hdB (S i)) j))) then [] else if eK (hdB (S (wh (fun i => hdB (S i)) j))) ≤ lim then hdB (S (wh (fun i => hdB (S i)) j)) :: kc P j f (tkS S (wh (fun i => hdB (S i)) j)) (eK (hdB (S (wh (fun i => hdB (S i)) j))) - 1) else kc P j f (tkS S (wh (fun i => hdB (S i)) j)) lim) := rfl
    rw [e]
    by_cases c1 : lim < 0
    · rw [if_pos c1]; exact List.Pairwise.nil
    rw [if_neg c1]
    by_cases c2 : P < cK (hdB (S (wh (fun i => hdB (S i)) j)))
    · rw [if_pos c2]; exact List.Pairwise.nil
    rw [if_neg c2]
    have hf2 : f ≤ cnS (tkS S (wh (fun i => hdB (S i)) j)) (j + 1) := by
      by_cases hne : (S (wh (fun i => hdB (S i)) j)).length = 0
      · have e9 : tkS S (wh (fun i => hdB (S i)) j) = S := by
          funext k
          unfold tkS
          split
          · rename_i hk
            rw [hk, List.eq_nil_of_length_eq_zero hne]
            rfl
          · rfl
        rw [e9]; omega
      · have := (cnS_tk hne (j + 1)).2 (Nat.lt_succ_of_le (wh_le _ j))
        omega
    have hr := fun lim' => ih (tkS S (wh (fun i => hdB (S i)) j)) lim' hf2 (tk_srt hs) (fun i x hx => hB i x (tk_mem hx))
    by_cases c3 : eK (hdB (S (wh (fun i => hdB (S i)) j))) ≤ lim
    · rw [if_pos c3]
      refine List.pairwise_cons.mpr ⟨fun y hy => ?_, hr _⟩
      obtain ⟨⟨i, hi, hm⟩, g2, g3⟩ := kc_in f _ _ y hf2 (tk_srt hs) (fun i x hx => hB i x (tk_mem hx)) hy
      have hm := tk_mem hm
      have hle := (wh_ne (j := j) hs hi hm (hB i y hm)).2
      refine ⟨?_, by omega⟩
      have : hdB (S (wh (fun i => hdB (S i)) j)) ≠ y := fun q => by rw [← q] at g2; omega
      omega
    · rw [if_neg c3]
      exact hr _
/-! ===== climbs: the rows of the class hold the least ===== -/
/-- what a move adds to a key -/
def mvK (C E : Nat → Nat → Int) (p far : Nat) : Int := C p far * 2199023255552 + E p far * 536870912 + 16777216 - btP p
theorem kf_add {C E : Nat → Nat → Int} {m p far : Nat} {c e b : Int} : kf m c e b + mvK C E p far = kf (m + 1) (c + C p far) (e + E p far) (b + btP p) := by
  unfold kf mvK
  omega
/-- a move that a pilgrim has -/
def alw (lp : Nat) (op : Nat → Prop) (p far : Nat) : Prop := 1 ≤ far ∧ far ≤ lp ∧ far ≤ p ∧ op p
/-- least efforts up -/
def LUs (lp n : Nat) (op : Nat → Prop) (E : Nat → Nat → Int) (lu : Nat → Int) : Prop := (∀ q far, 1 ≤ far → far ≤ lp → q + far ≤ n → op q → op (q + far) → lu q ≤ E (q + far) far + lu (q + far)) ∧ (op n → lu n = 0) ∧ ∀ q, 0 ≤ lu q
/-- a row of a place: its keys are of ways, and none is better than all of them -/
def RWs (lp : Nat) (op : Nat → Prop) (C E : Nat → Nat → Int) (P lim : Int) (p : Nat) (R : List Int) : Prop := (∀ k, k ∈ R → ∃ m c e b, PX lp op C E m 0 p c e b ∧ k = kf m c e b ∧ e ≤ max lim 0 ∧ c ≤ P) ∧ (∀ m c e b, PX lp op C E m 0 p c e b → e ≤ lim → c ≤ P → ∃ k, k ∈ R ∧ k ≤ kf m c e b ∧ eK k ≤ e)
/-- the rows that a new one is merged of -/
def SRC (lp : Nat) (op : Nat → Prop) (C E : Nat → Nat → Int) (R : Nat → List Int) (p : Nat) (S : Nat → List Int) (j : Nat) : Prop := (∀ i x, i ≤ j → x ∈ S i → ∃ far, alw lp op p far ∧ ∃ y, y ∈ R (p - far) ∧ x = y + mvK C E p far) ∧ (∀ far y, alw lp op p far → y ∈ R (p - far) → ∃ i, i ≤ j ∧ y + mvK C E p far ∈ S i)
theorem PX_op {lp : Nat} {op : Nat → Prop} {C E : Nat → Nat → Int} {m p : Nat} {c e b : Int} (h0 : op 0) (h : PX lp op C E m 0 p c e b) : op p := by
  cases m with
  | zero => rw [← h.1]; exact h0
  | succ m => obtain ⟨far, h1, h2, h3, h4, h5⟩ := h; exact h4
theorem PX_rng {lp : Nat} {op : Nat → Prop} {C E : Nat → Nat → Int} {m p : Nat} {c e b : Int} (hp : p ≤ 24) (hC : ∀ p f, 0 ≤ C p f ∧ C p f ≤ 297) (hE : ∀ p f, 0 ≤ E p f ∧ E p f ≤ 600) (h : PX lp op C E m 0 p c e b) : m ≤ 24 ∧ 0 ≤ c ∧ c ≤ 7128 ∧ 0 ≤ e ∧ 0 ≤ b ∧ b ≤ 16777215 := by
  have l := PX_le _ _ _ _ _ _ h
  have s := PX_sums hC hE _ _ _ _ _ _ h
  have g := PX_bits _ _ _ _ _ _ hp h
  have b0 : btP 0 = 16777216 := rfl
  have bp := btP_pos p
  have : (297 : Int) * (m : Int) ≤ 7128 := by omega
  omega
set_option maxHeartbeats 1000000 in
theorem RW_step {lp n : Nat} {op : Nat → Prop} {C E : Nat → Nat → Int} {lu : Nat → Int} {K P : Int} {R : Nat → List Int} {p j : Nat} {S : Nat → List Int} (h0 : op 0) (hC : ∀ p f, 0 ≤ C p f ∧ C p f ≤ 297) (hE : ∀ p f, 0 ≤ E p f ∧ E p f ≤ 600) (hu : LUs lp n op E lu) (hK : K ≤ 999) (hP : P ≤ 999) (hp : p ≤ n) (hn : n ≤ 24) (hp0 : 0 < p) (ih : ∀ q, q < p → RWs lp op C E P (K - lu q) q (R q)) (hs : SRC lp op C E R p S j) (hSs : ∀ i, srt (S i)) (hSB : ∀ i x, x ∈ S i → x < BIG) : RWs lp op C E P (K - lu p) p (kc P j (cnS S (j + 1)) S (K - lu p)) := by
  refine ⟨fun y hy => ?_, fun m c e b hx he hc => ?_⟩
  · obtain ⟨⟨i, hi, hm⟩, g2, g3⟩ := kc_in _ S _ y (Nat.le_refl _) hSs hSB hy
    obtain ⟨far, ha, k, hk, ey⟩ := hs.1 i y hi hm
    obtain ⟨a1, a2, a3, a4⟩ := ha
    obtain ⟨m, c, e, b, hx, ek, he, hc⟩ := (ih (p - far) (by omega)).1 k hk
    have hx2 : PX lp op C E (m + 1) 0 p (c + C p far) (e + E p far) (b + btP p) := ⟨far, a1, a2, a3, a4, PX_cast hx rfl rfl (by omega) (by omega) (by omega)⟩
    have r := PX_rng (by omega) hC hE hx2
    have r0 := PX_rng (by omega) hC hE hx
    have u0 := hu.2.2 (p - far)
    have a9 := hE p far
    rw [ek, kf_add] at ey
    rw [ey, kf_eff r.1 (by omega) (by omega)] at g2
    rw [ey, kf_cost r.1 (by omega) (by omega)] at g3
    exact ⟨m + 1, _, _, _, hx2, ey, by omega, g3⟩
  · cases m with
    | zero => have := hx.1; omega
    | succ m =>
      obtain ⟨far, a1, a2, a3, a4, hx1⟩ := hx
      have oq := PX_op h0 hx1
      have r1 := PX_rng (by omega) hC hE hx1
      have c9 := hC p far
      have e9 := hE p far
      have hlu := hu.1 (p - far) far a1 a2 (by omega) oq (by rw [show p - far + far = p by omega]; exact a4)
      rw [show p - far + far = p by omega] at hlu
      obtain ⟨k, hk, k1, k2⟩ := (ih (p - far) (by omega)).2 m _ _ _ hx1 (by omega) (by omega)
      obtain ⟨m', c', e', b', hx', ek, he', hc'⟩ := (ih (p - far) (by omega)).1 k hk
      have r' := PX_rng (by omega) hC hE hx'
      have u0 := hu.2.2 (p - far)
      have u1 := hu.2.2 p
      have ee : eK k = e' := by rw [ek]; exact kf_eff r'.1 (by omega) (by omega)
      obtain ⟨i, hi, hm⟩ := hs.2 far k ⟨a1, a2, a3, a4⟩ hk
      have hx2 : PX lp op C E (m' + 1) 0 p (c' + C p far) (e' + E p far) (b' + btP p) := ⟨far, a1, a2, a3, a4, PX_cast hx' rfl rfl (by omega) (by omega) (by omega)⟩
      have r2 := PX_rng (by omega) hC hE hx2
      have ec : cK k ≤ cK (kf m (c - C p far) (e - E p far) (b - btP p)) := cK_mono k1
      rw [ek, kf_cost r'.1 (by omega) (by omega), kf_cost r1.1 (by omega) (by omega)] at ec
      rw [ek, kf_add] at hm
      obtain ⟨y, hy, y1, y2⟩ := kc_all (P := P) (j := j) _ S (K - lu p) i _ rfl hSs hSB hi hm (by rw [kf_eff r2.1 (by omega) (by omega)]; omega) (by rw [kf_cost r2.1 (by omega) (by omega)]; omega)
      refine ⟨y, hy, ?_, ?_⟩
      · have g : kf m (c - C p far) (e - E p far) (b - btP p) + mvK C E p far = kf (m + 1) c e b := by
          rw [kf_add]
          rw [show c - C p far + C p far = c by omega, show e - E p far + E p far = e by omega, show b - btP p + btP p = b by omega]
        rw [← kf_add, ← ek] at y1
        omega
      · rw [kf_eff r2.1 (by omega) (by omega)] at y2
        omega
theorem RW_0 {lp : Nat} {op : Nat → Prop} {C E : Nat → Nat → Int} {P lim : Int} (hP : 0 ≤ P) : RWs lp op C E P lim 0 [16777215] := by
  refine ⟨fun k hk => ?_, fun m c e b hx he hc => ?_⟩
  · rw [List.mem_singleton.mp hk]
    exact ⟨0, 0, 0, 0, ⟨rfl, rfl, rfl, rfl⟩, rfl, by omega, hP⟩
  · have := PX_le _ _ _ _ _ _ hx
    have em : m = 0 := by omega
    subst em
    obtain ⟨-, e1, e2, e3⟩ := hx
    subst e1; subst e2; subst e3
    exact ⟨16777215, List.mem_cons_self, Int.le_refl _, Int.le_refl _⟩
/-- the least of all climbs that can be -/
def FEA (lp n : Nat) (op : Nat → Prop) (C E : Nat → Nat → Int) (K P : Int) (m : Nat) (c e b : Int) : Prop := PX lp op C E m 0 n c e b ∧ e ≤ K ∧ c ≤ P
def LST (lp n : Nat) (op : Nat → Prop) (C E : Nat → Nat → Int) (K P : Int) (m : Nat) (c e b : Int) : Prop := FEA lp n op C E K P m c e b ∧ ∀ m' c' e' b', FEA lp n op C E K P m' c' e' b' → kf m c e b ≤ kf m' c' e' b'
theorem lu_low {lp n : Nat} {op : Nat → Prop} {C E : Nat → Nat → Int} {lu : Nat → Int} (hu : LUs lp n op E lu) : ∀ (m q : Nat) (c e b : Int), op q → PX lp op C E m q n c e b → lu q ≤ e := by
  intro m
  induction m with
  | zero =>
    intro q c e b hq h
    obtain ⟨e1, -, e3, -⟩ := h
    rw [e1] at hq ⊢
    rw [hu.2.1 hq, e3]
    exact Int.le_refl _
  | succ m ih =>
    intro q c e b hq h
    obtain ⟨far, h1, h2, h3, h4⟩ := PX_head _ _ _ _ _ _ h
    have l := PX_le _ _ _ _ _ _ h4
    have g := ih _ _ _ _ h3 h4
    have u := hu.1 q far h1 h2 (by omega) hq h3
    omega
theorem RW_top {lp n : Nat} {op : Nat → Prop} {C E : Nat → Nat → Int} {lu : Nat → Int} {K P : Int} {R : List Int} (hK0 : 0 ≤ K) (h0 : op 0) (hu : LUs lp n op E lu) (h : RWs lp op C E P (K - lu n) n R) (hs : R.Pairwise (fun a b => a < b ∧ eK b < eK a)) : (R = [] → ∀ m c e b, ¬ FEA lp n op C E K P m c e b) ∧ (∀ k t, R = k :: t → ∃ m c e b, LST lp n op C E K P m c e b ∧ k = kf m c e b) := by
  have up : ∀ m c e b, FEA lp n op C E K P m c e b → ∃ k, k ∈ R ∧ k ≤ kf m c e b := by
    intro m c e b hf
    have on := PX_op h0 hf.1
    obtain ⟨k, hk, g, -⟩ := h.2 m c e b hf.1 (by rw [hu.2.1 on]; have := hf.2.1; omega) hf.2.2
    exact ⟨k, hk, g⟩
  refine ⟨fun hR m c e b hf => ?_, fun k t hR => ?_⟩
  · obtain ⟨k, hk, -⟩ := up m c e b hf
    rw [hR] at hk
    exact absurd hk List.not_mem_nil
  · obtain ⟨m, c, e, b, hx, ek, he, hc⟩ := h.1 k (by rw [hR]; exact List.mem_cons_self)
    have on := PX_op h0 hx
    refine ⟨m, c, e, b, ⟨⟨hx, by rw [hu.2.1 on] at he; omega, hc⟩, fun m' c' e' b' hf => ?_⟩, ek⟩
    obtain ⟨k', hk', g⟩ := up m' c' e' b' hf
    rw [hR] at hk' hs
    rw [← ek]
    rcases List.mem_cons.mp hk' with e9 | e9
    · rw [e9] at g; exact g
    · have := ((List.pairwise_cons.mp hs).1 k' e9).1
      omega
/-- what is least is one -/
theorem LST_one {lp n : Nat} {op : Nat → Prop} {C E : Nat → Nat → Int} {K P : Int} {m m' : Nat} {c c' e e' b b' : Int} (hn : n ≤ 24) (hC : ∀ p f, 0 ≤ C p f ∧ C p f ≤ 297) (hE : ∀ p f, 0 ≤ E p f ∧ E p f ≤ 600) (hK : K ≤ 999) (h : LST lp n op C E K P m c e b) (h' : LST lp n op C E K P m' c' e' b') : m = m' ∧ c = c' ∧ e = e' ∧ b = b' := by
  have r := PX_rng hn hC hE h.1.1
  have r' := PX_rng hn hC hE h'.1.1
  have k1 := h.1.2.1
  have k2 := h'.1.2.1
  have a := (kf_lex r.1 r'.1 (by omega) (by omega) (by omega) (by omega)).mp (h.2 _ _ _ _ h'.1)
  have a' := (kf_lex r'.1 r.1 (by omega) (by omega) (by omega) (by omega)).mp (h'.2 _ _ _ _ h.1)
  omega
/-! ===== climbs: what the reference finds ===== -/
def FARm : Int := 1000000000
/-- the least of 100 times the cost and the moves, of ways from place q to the top with just so much effort -/
def BSs (lp n : Nat) (op : Nat → Prop) (C E : Nat → Nat → Int) (q : Nat) (e v : Int) : Prop := (v = FARm ∧ ∀ m c b, ¬ PX lp op C E m q n c e b) ∨ (v ≠ FARm ∧ (∃ m c b, PX lp op C E m q n c e b ∧ v = 100 * c + (m : Int)) ∧ ∀ m c b, PX lp op C E m q n c e b → v ≤ 100 * c + (m : Int))
/-- a move up from place q -/
def alu (lp n : Nat) (op : Nat → Prop) (q far : Nat) : Prop := 1 ≤ far ∧ far ≤ lp ∧ q + far ≤ n ∧ op (q + far)
/-- by its first move: the least so far w, far tried -/
def BSw (lp n : Nat) (op : Nat → Prop) (C E : Nat → Nat → Int) (q : Nat) (e : Int) (k : Nat) (w : Int) : Prop := (w = FARm ∨ (w ≠ FARm ∧ ∃ m c b, PX lp op C E m q n c e b ∧ w = 100 * c + (m : Int))) ∧ ∀ far m c b, alu lp n op q far → far < k → PX lp op C E m (q + far) n c (e - E (q + far) far) b → w ≤ 100 * (c + C (q + far) far) + (m : Int) + 1
theorem PX_up {lp n : Nat} {op : Nat → Prop} {C E : Nat → Nat → Int} {q far m : Nat} {c e b : Int} (ha : alu lp n op q far) (h : PX lp op C E m (q + far) n c (e - E (q + far) far) b) : PX lp op C E (m + 1) q n (c + C (q + far) far) e (b + btP (q + far)) :=
  PX_cons _ _ _ far _ _ _ ha.1 ha.2.1 ha.2.2.2 (PX_cast h rfl rfl (by omega) rfl (by omega))
theorem BSw_1 {lp n : Nat} {op : Nat → Prop} {C E : Nat → Nat → Int} {q : Nat} {e : Int} : BSw lp n op C E q e 1 FARm := ⟨Or.inl rfl, fun far m c b ha hf _ => by have := ha.1; omega⟩
theorem PX_up_rng {lp n : Nat} {op : Nat → Prop} {C E : Nat → Nat → Int} (hn : n ≤ 24) (hC : ∀ p f, 0 ≤ C p f ∧ C p f ≤ 297) (hE : ∀ p f, 0 ≤ E p f ∧ E p f ≤ 600) {m q : Nat} {c e b : Int} (h : PX lp op C E m q n c e b) : m ≤ 24 ∧ 0 ≤ c ∧ c ≤ 7128 ∧ 0 ≤ e ∧ 0 ≤ b ∧ b ≤ btP q - btP n := by
  have l := PX_le _ _ _ _ _ _ h
  have s := PX_sums hC hE _ _ _ _ _ _ h
  have g := PX_bits _ _ _ _ _ _ hn h
  have : (297 : Int) * (m : Int) ≤ 7128 := by omega
  omega
/-- a move that isn't there, or comes to nothing: as it was -/
theorem BSw_skip {lp n : Nat} {op : Nat → Prop} {C E : Nat → Nat → Int} {q k : Nat} {e w : Int} (h : BSw lp n op C E q e k w) (hn : alu lp n op q k → ∀ m c b, ¬ PX lp op C E m (q + k) n c (e - E (q + k) k) b) : BSw lp n op C E q e (k + 1) w := by
  refine ⟨h.1, fun far m c b ha hf hx => ?_⟩
  by_cases c1 : far = k
  · subst c1
    exact absurd hx (hn ha m c b)
  · exact h.2 far m c b ha (by omega) hx
/-- a move that is there -/
theorem BSw_take {lp n : Nat} {op : Nat → Prop} {C E : Nat → Nat → Int} {q k : Nat} {e w v : Int} (hn : n ≤ 24) (hC : ∀ p f, 0 ≤ C p f ∧ C p f ≤ 297) (hE : ∀ p f, 0 ≤ E p f ∧ E p f ≤ 600) (h : BSw lp n op C E q e k w) (ha : alu lp n op q k) (hv : BSs lp n op C E (q + k) (e - E (q + k) k) v) (hf : v ≠ FARm) : BSw lp n op C E q e (k + 1) (min w (v + 100 * C (q + k) k + 1)) := by
  rcases hv with ⟨e1, -⟩ | ⟨-, ⟨m, c, b, hx, ev⟩, hv⟩
  · exact absurd e1 hf
  have hx2 := PX_up ha hx
  have r := PX_up_rng hn hC hE hx2
  refine ⟨?_, fun far m' c' b' ha' hf' hx' => ?_⟩
  · by_cases c1 : w ≤ v + 100 * C (q + k) k + 1
    · rw [Int.min_eq_left c1]; exact h.1
    · rw [Int.min_eq_right (by omega)]
      refine Or.inr ⟨?_, m + 1, _, _, hx2, ?_⟩
      · unfold FARm
        omega
      · omega
  · by_cases c1 : far = k
    · subst c1
      have := hv m' c' b' hx'
      have := Int.min_le_right w (v + 100 * C (q + far) far + 1)
      omega
    · have := h.2 far m' c' b' ha' (by omega) hx'
      have := Int.min_le_left w (v + 100 * C (q + k) k + 1)
      omega
theorem BS_of {lp n : Nat} {op : Nat → Prop} {C E : Nat → Nat → Int} {q : Nat} {e w : Int} (hn : n ≤ 24) (hC : ∀ p f, 0 ≤ C p f ∧ C p f ≤ 297) (hE : ∀ p f, 0 ≤ E p f ∧ E p f ≤ 600) (hlp : lp ≤ 3) (hq : q < n) (h : BSw lp n op C E q e 4 w) : BSs lp n op C E q e w := by
  have low : ∀ m c b, PX lp op C E m q n c e b → w ≤ 100 * c + (m : Int) := by
    intro m c b hx
    cases m with
    | zero => have := hx.1; omega
    | succ m =>
      obtain ⟨far, a1, a2, a3, hx1⟩ := PX_head _ _ _ _ _ _ hx
      have l := PX_le _ _ _ _ _ _ hx1
      have := h.2 far m _ _ ⟨a1, a2, by omega, a3⟩ (by omega) hx1
      omega
  rcases h.1 with e1 | ⟨e1, m, c, b, hx, ew⟩
  · refine Or.inl ⟨e1, fun m c b hx => ?_⟩
    have g := low m c b hx
    have r := PX_up_rng hn hC hE hx
    rw [e1] at g
    unfold FARm at g
    omega
  · exact Or.inr ⟨e1, ⟨m, c, b, hx, ew⟩, low⟩
theorem BS_top {lp n : Nat} {op : Nat → Prop} {C E : Nat → Nat → Int} {e : Int} : BSs lp n op C E n e (if e = 0 then 0 else FARm) := by
  have one : ∀ m c b, PX lp op C E m n n c e b → m = 0 ∧ c = 0 ∧ e = 0 := by
    intro m c b hx
    have l := PX_le _ _ _ _ _ _ hx
    have em : m = 0 := by omega
    subst em
    exact ⟨rfl, hx.2.1, hx.2.2.1⟩
  by_cases c : e = 0
  · rw [if_pos c]
    refine Or.inr ⟨by unfold FARm; omega, ⟨0, 0, 0, ⟨rfl, rfl, c, rfl⟩, rfl⟩, fun m c b hx => ?_⟩
    obtain ⟨h1, h2, -⟩ := one m c b hx
    rw [h1, h2]
    exact Int.le_refl _
  · rw [if_neg c]
    exact Or.inl ⟨rfl, fun m c' b hx => c (one m c' b hx).2.2⟩
/-- the effort that is chosen; -1: none -/
def selE (P : Int) (B : Nat → Int) : Nat → Int
  | 0 => -1
  | k + 1 => if B k = FARm ∨ P < B k / 100 then selE P B k else if selE P B k = -1 ∨ B k / 100 < B (selE P B k).toNat / 100 then (k : Int) else selE P B k
theorem selE_is {P : Int} {B : Nat → Int} : ∀ k, (selE P B k = -1 ∧ ∀ e : Nat, e < k → B e = FARm ∨ P < B e / 100) ∨ (∃ e0 : Nat, e0 < k ∧ selE P B k = (e0 : Int) ∧ B e0 ≠ FARm ∧ B e0 / 100 ≤ P ∧ ∀ e : Nat, e < k → B e ≠ FARm → B e / 100 ≤ P → B e0 / 100 < B e / 100 ∨ (B e0 / 100 = B e / 100 ∧ e0 ≤ e)) := by
  intro k
  induction k with
  | zero => exact Or.inl ⟨rfl, fun e h => absurd h (Nat.not_lt_zero e)⟩
  | succ k ih =>
    have eq : selE P B (k + 1) = if B k = FARm ∨ P < B k / 100 then selE P B k else if selE P B k = -1 ∨ B k / 100 < B (selE P B k).toNat / 100 then (k : Int) else selE P B k := rfl
    by_cases c : B k = FARm ∨ P < B k / 100
    · rw [if_pos c] at eq
      rw [eq]
      rcases ih with ⟨h1, h2⟩ | ⟨e0, h1, h2, h3, h4, h5⟩
      · refine Or.inl ⟨h1, fun e he => ?_⟩
        by_cases ce : e = k
        · rw [ce]; exact c
        · exact h2 e (by omega)
      · refine Or.inr ⟨e0, by omega, h2, h3, h4, fun e he g1 g2 => ?_⟩
        by_cases ce : e = k
        · rw [ce] at g1 g2
          rcases c with c | c
          · exact absurd c g1
          · omega
        · exact h5 e (by omega) g1 g2
    · rw [if_neg c] at eq
      have c1 : B k ≠ FARm := fun q => c (Or.inl q)
      have c2 : B k / 100 ≤ P := Int.not_lt.mp (fun q => c (Or.inr q))
      rcases ih with ⟨h1, h2⟩ | ⟨e0, h1, h2, h3, h4, h5⟩
      · rw [if_pos (Or.inl h1)] at eq
        rw [eq]
        refine Or.inr ⟨k, by omega, rfl, c1, c2, fun e he g1 g2 => ?_⟩
        by_cases ce : e = k
        · rw [ce]; exact Or.inr ⟨rfl, Nat.le_refl _⟩
        · rcases h2 e (by omega) with q | q
          · exact absurd q g1
          · omega
      · rw [h2, Int.toNat_natCast] at eq
        by_cases c3 : B k / 100 < B e0 / 100
        · rw [if_pos (Or.inr c3)] at eq
          rw [eq]
          refine Or.inr ⟨k, by omega, rfl, c1, c2, fun e he g1 g2 => ?_⟩
          by_cases ce : e = k
          · rw [ce]; exact Or.inr ⟨rfl, Nat.le_refl _⟩
          · have := h5 e (by omega) g1 g2
            left
            omega
        · rw [if_neg (by omega)] at eq
          rw [eq]
          refine Or.inr ⟨e0, by omega, rfl, h3, h4, fun e he g1 g2 => ?_⟩
          by_cases ce : e = k
          · rw [ce]; omega
          · exact h5 e (by omega) g1 g2
/-- a move on the way that is told -/
def onW (lp n : Nat) (op : Nat → Prop) (C E : Nat → Nat → Int) (B : Nat → Int → Int) (q far : Nat) (e : Int) : Prop := alu lp n op q far ∧ E (q + far) far ≤ e ∧ B (q + far) (e - E (q + far) far) ≠ FARm ∧ B (q + far) (e - E (q + far) far) + 100 * C (q + far) far + 1 = B q e
/-- a way told: by the least first move, so on -/
def WAY (lp n : Nat) (op : Nat → Prop) (C E : Nat → Nat → Int) (B : Nat → Int → Int) : Nat → Nat → Int → Int → Int → Prop
  | 0, q, c, e, b => q = n ∧ c = 0 ∧ e = 0 ∧ b = 0
  | m + 1, q, c, e, b => q < n ∧ ∃ far, onW lp n op C E B q far e ∧ (∀ f, f < far → ¬ onW lp n op C E B q f e) ∧ WAY lp n op C E B m (q + far) (c - C (q + far) far) (e - E (q + far) far) (b - btP (q + far))
set_option maxHeartbeats 1000000 in
theorem WAY_is {lp n : Nat} {op : Nat → Prop} {C E : Nat → Nat → Int} {B : Nat → Int → Int} {EM : Int} (hn : n ≤ 24) (hC : ∀ p f, 0 ≤ C p f ∧ C p f ≤ 297) (hE : ∀ p f, 0 ≤ E p f ∧ E p f ≤ 600) (hB : ∀ q e, q ≤ n → 0 ≤ e → e ≤ EM → BSs lp n op C E q e (B q e)) : ∀ (m q : Nat) (c e b : Int), q ≤ n → 0 ≤ e → e ≤ EM → WAY lp n op C E B m q c e b → PX lp op C E m q n c e b ∧ B q e = 100 * c + (m : Int) ∧ ∀ m' c' b', PX lp op C E m' q n c' e b' → 100 * c' + (m' : Int) = B q e → b' ≤ b := by
  intro m
  induction m with
  | zero =>
    intro q c e b hq he hem h
    obtain ⟨h1, h2, h3, h4⟩ := h
    subst h1; subst h2; subst h3; subst h4
    have px : PX lp op C E 0 q q 0 0 0 := ⟨rfl, rfl, rfl, rfl⟩
    refine ⟨px, ?_, fun m' c' b' hx _ => ?_⟩
    · rcases hB q 0 hq he hem with ⟨-, g⟩ | ⟨g0, ⟨m1, c1, b1, g1, g2⟩, -⟩
      · exact absurd px (g 0 0 0)
      · have l := PX_le _ _ _ _ _ _ g1
        have em : m1 = 0 := by omega
        subst em
        rw [g2, g1.2.1]
    · have l := PX_le _ _ _ _ _ _ hx
      have em : m' = 0 := by omega
      subst em
      rw [hx.2.2.2]
      exact Int.le_refl _
  | succ m ih =>
    intro q c e b hq he hem h
    obtain ⟨hqn, far, ⟨ha, o1, o2, o3⟩, hl, hw⟩ := h
    have e9 := hE (q + far) far
    obtain ⟨i1, i2, i3⟩ := ih (q + far) _ _ _ ha.2.2.1 (by omega) (by omega) hw
    have px : PX lp op C E (m + 1) q n c e b := PX_cons _ _ _ far _ _ _ ha.1 ha.2.1 ha.2.2.2 i1
    refine ⟨px, by omega, fun m' c' b' hx hv => ?_⟩
    cases m' with
    | zero => have := hx.1; omega
    | succ m' =>
      obtain ⟨f, f1, f2, f3, hx1⟩ := PX_head _ _ _ _ _ _ hx
      have l1 := PX_le _ _ _ _ _ _ hx1
      have r1 := PX_up_rng hn hC hE hx1
      have r0 := PX_up_rng hn hC hE i1
      have alf : alu lp n op q f := ⟨f1, f2, by omega, f3⟩
      have bp := btP_pos n
      have e8 := hE (q + f) f
      rcases hB (q + f) (e - E (q + f) f) (by omega) (by omega) (by omega) with ⟨-, g⟩ | ⟨g0, ⟨m1, c1, b1, g1, g2⟩, g3⟩
      · exact absurd hx1 (g _ _ _)
      · have low := g3 _ _ _ hx1
        have up : B q e ≤ 100 * (c1 + C (q + f) f) + ((m1 + 1 : Nat) : Int) := by
          rcases hB q e hq he hem with ⟨-, g⟩ | ⟨-, -, g⟩
          · exact absurd px (g _ _ _)
          · exact g _ _ _ (PX_up alf g1)
        have on : onW lp n op C E B q f e := ⟨alf, by omega, g0, by omega⟩
        have hf : far ≤ f := Nat.not_lt.mp (fun q9 => hl f q9 on)
        by_cases cf : f = far
        · subst cf
          have := i3 m' _ _ hx1 (by omega)
          omega
        · have l2 := btP_less (p := q + f) (by omega) (f - far) (by omega) (by omega)
          rw [show q + f - (f - far) = q + far by omega] at l2
          omega
/-- the climb that the reference finds is the least -/
theorem WAY_lst {lp n : Nat} {op : Nat → Prop} {C E : Nat → Nat → Int} {B : Nat → Int → Int} {K P : Int} (hn : n ≤ 24) (hC : ∀ p f, 0 ≤ C p f ∧ C p f ≤ 297) (hE : ∀ p f, 0 ≤ E p f ∧ E p f ≤ 600) (hB : ∀ q e, q ≤ n → 0 ≤ e → e ≤ K → BSs lp n op C E q e (B q e)) (hK : 0 ≤ K ∧ K ≤ 999) {m : Nat} {c b : Int} {e0 : Nat} (hs : selE P (fun e => B 0 (e : Int)) (K.toNat + 1) = (e0 : Int)) (hw : WAY lp n op C E B m 0 c (e0 : Int) b) : LST lp n op C E K P m c (e0 : Int) b := by
  have e0K : (e0 : Int) ≤ K := by
    rcases selE_is (P := P) (B := fun e => B 0 (e : Int)) (K.toNat + 1) with ⟨q1, -⟩ | ⟨e1, q0, q1, -⟩
    · rw [hs] at q1; omega
    · rw [hs] at q1; omega
  obtain ⟨h1, h2, h3⟩ := WAY_is hn hC hE hB m 0 c (e0 : Int) b (Nat.zero_le _) (by omega) e0K hw
  have r := PX_up_rng hn hC hE h1
  have b0 : btP 0 = 16777216 := rfl
  have bp := btP_pos n
  rcases selE_is (P := P) (B := fun e => B 0 (e : Int)) (K.toNat + 1) with ⟨q1, -⟩ | ⟨e1, q0, q1, q2, q3, q4⟩
  · rw [hs] at q1; omega
  have e01 : e1 = e0 := by rw [hs] at q1; omega
  subst e01
  have q3 : B 0 (e1 : Int) / 100 ≤ P := q3
  refine ⟨⟨h1, by omega, by omega⟩, fun m' c' e' b' hf => ?_⟩
  obtain ⟨hx, g1, g2⟩ := hf
  have r' := PX_up_rng hn hC hE hx
  refine (kf_lex (by omega) (by omega) (by omega) (by omega) (by omega) (by omega)).mpr ?_
  have en : ((e'.toNat : Nat) : Int) = e' := by omega
  have hB' := hB 0 e' (Nat.zero_le _) (by omega) (by omega)
  rcases hB' with ⟨-, g⟩ | ⟨g0, -, g3⟩
  · exact absurd hx (g _ _ _)
  have low := g3 _ _ _ hx
  have cmp := q4 e'.toNat (by omega)
  have cmp : B 0 ((e'.toNat : Nat) : Int) ≠ FARm → B 0 ((e'.toNat : Nat) : Int) / 100 ≤ P → B 0 (e1 : Int) / 100 < B 0 ((e'.toNat : Nat) : Int) / 100 ∨ (B 0 (e1 : Int) / 100 = B 0 ((e'.toNat : Nat) : Int) / 100 ∧ e1 ≤ e'.toNat) := cmp
  rw [en] at cmp
  have cmp := cmp g0 (by omega)
  by_cases ce : e' = (e1 : Int)
  · subst ce
    by_cases c1 : c < c'
    · exact Or.inl c1
    · have c2 : c = c' := by omega
      refine Or.inr ⟨c2, Or.inr ⟨rfl, ?_⟩⟩
      by_cases c3 : m < m'
      · exact Or.inl c3
      · exact Or.inr ⟨by omega, h3 m' c' b' hx (by omega)⟩
  · omega
theorem sel_none {lp n : Nat} {op : Nat → Prop} {C E : Nat → Nat → Int} {B : Nat → Int → Int} {K P : Int} (hn : n ≤ 24) (hC : ∀ p f, 0 ≤ C p f ∧ C p f ≤ 297) (hE : ∀ p f, 0 ≤ E p f ∧ E p f ≤ 600) (hB : ∀ q e, q ≤ n → 0 ≤ e → e ≤ K → BSs lp n op C E q e (B q e)) (hs : selE P (fun e => B 0 (e : Int)) (K.toNat + 1) = -1) : ∀ m c e b, ¬ FEA lp n op C E K P m c e b := by
  intro m c e b hf
  obtain ⟨hx, g1, g2⟩ := hf
  have r := PX_up_rng hn hC hE hx
  have en : ((e.toNat : Nat) : Int) = e := by omega
  rcases selE_is (P := P) (B := fun e => B 0 (e : Int)) (K.toNat + 1) with ⟨-, q1⟩ | ⟨e1, -, q1, -⟩
  · have q1 := q1 e.toNat (by omega)
    have q1 : B 0 ((e.toNat : Nat) : Int) = FARm ∨ P < B 0 ((e.toNat : Nat) : Int) / 100 := q1
    rw [en] at q1
    rcases hB 0 e (Nat.zero_le _) (by omega) (by omega) with ⟨-, g⟩ | ⟨g0, -, g3⟩
    · exact absurd hx (g _ _ _)
    · have low := g3 _ _ _ hx
      rcases q1 with q1 | q1
      · exact g0 q1
      · omega
  · rw [hs] at q1; omega
/-! ===== keys as longs ===== -/
theorem u64_nat {x : Int64} {k : Int} (h : x.toInt = k) (h0 : 0 ≤ k) : (x.toUInt64.toNat : Int) = k := by
  have h1 : x.toInt = x.toBitVec.toInt := rfl
  have h2 : x.toUInt64.toNat = x.toBitVec.toNat := rfl
  have hl := x.toBitVec.isLt
  rw [h1, BitVec.toInt_eq_toNat_cond] at h
  rw [h2]
  split at h <;> omega
theorem u64_int {u : UInt64} (h : u.toNat < 9223372036854775808) : u.toInt64.toInt = (u.toNat : Int) := by
  have h1 : u.toInt64.toInt = u.toBitVec.toInt := rfl
  have h2 : u.toNat = u.toBitVec.toNat := rfl
  rw [h2] at h
  rw [h1, BitVec.toInt_eq_toNat_cond, h2, if_pos (by omega)]
theorem l_shr {x : Int64} {k : Int} {s : UInt64} {d P : Nat} (h : x.toInt = k) (h0 : 0 ≤ k) (hs : s.toNat = d) (hd : d < 64) (hP : 2 ^ d = P) (hP1 : 1 ≤ P) : ((x.toUInt64 >>> s).toInt64).toInt = k / (P : Int) := by
  have hn := u64_nat h h0
  have hr := l_rng x
  have e : (x.toUInt64 >>> s).toNat = x.toUInt64.toNat / P := by
    rw [UInt64.toNat_shiftRight, hs, Nat.mod_eq_of_lt hd, Nat.shiftRight_eq_div_pow, hP]
  have hle : x.toUInt64.toNat / P ≤ x.toUInt64.toNat := Nat.div_le_self _ _
  rw [u64_int (by rw [e]; omega), e, Int.natCast_ediv, hn]
theorem k_cost {x : Int64} {k : Int} (h : x.toInt = k) (h0 : 0 ≤ k) : ((((x.toUInt64 >>> ((41 : Int32).toInt64.toUInt64 &&& Int64.toUInt64 63)).toInt64).toInt32)).toInt = cK k := by
  have e := l_shr (d := 41) (P := 2199023255552) (s := (41 : Int32).toInt64.toUInt64 &&& Int64.toUInt64 63) h h0 (by decide) (by decide) (by decide) (by decide)
  have hr := l_rng x
  have e2 : k / ((2199023255552 : Nat) : Int) = cK k := rfl
  rw [e2] at e
  refine l_to e ?_ ?_
  · unfold cK; omega
  · unfold cK; omega
theorem i_and4095 {x : Int32} : (x &&& (4095 : Int32)).toInt = x.toInt % 4096 := by
  have e : (x &&& (4095 : Int32)).toBitVec = x.toBitVec &&& (4095 : Int32).toBitVec := rfl
  have hn : (x &&& (4095 : Int32)).toBitVec.toNat = x.toBitVec.toNat % 4096 := by
    rw [e, BitVec.toNat_and]
    exact Nat.and_two_pow_sub_one_eq_mod _ 12
  have h1 : (x &&& (4095 : Int32)).toInt = (x &&& (4095 : Int32)).toBitVec.toInt := rfl
  have h2 : x.toInt = x.toBitVec.toInt := rfl
  have hl := x.toBitVec.isLt
  rw [h1, h2, BitVec.toInt_eq_toNat_cond, BitVec.toInt_eq_toNat_cond, hn]
  split <;> split <;> omega
theorem k_eff {x : Int64} {k : Int} (h : x.toInt = k) (h0 : 0 ≤ k) : ((((x.toUInt64 >>> ((29 : Int32).toInt64.toUInt64 &&& Int64.toUInt64 63)).toInt64).toInt32) &&& (4095 : Int32)).toInt = eK k := by
  have e := l_shr (d := 29) (P := 536870912) (s := (29 : Int32).toInt64.toUInt64 &&& Int64.toUInt64 63) h h0 (by decide) (by decide) (by decide) (by decide)
  have e2 : k / ((536870912 : Nat) : Int) = k / 536870912 := rfl
  rw [e2] at e
  rw [i_and4095, Int64.toInt_toInt32, e, Int.bmod_def]
  unfold eK
  generalize k / 536870912 = t
  have q : t % ((2 : Nat) ^ 32 : Nat) = t % 4294967296 := rfl
  omega
theorem c_costIn {Z : jZ} {I : jI} {L : jL} {x : Int64} {k : Int} {Q : Int32 → jI → jL → Prop} (h : x.toInt = k) (h0 : 0 ≤ k) (hQ : ∀ r : Int32, r.toInt = cK k → Q r I L) : f_X11_costIn x Z I L Q := by
  unfold f_X11_costIn
  exact hQ _ (k_cost h h0)
theorem c_effortIn {Z : jZ} {I : jI} {L : jL} {x : Int64} {k : Int} {Q : Int32 → jI → jL → Prop} (h : x.toInt = k) (h0 : 0 ≤ k) (hQ : ∀ r : Int32, r.toInt = eK k → Q r I L) : f_X11_effortIn x Z I L Q := by
  unfold f_X11_effortIn
  exact hQ _ (k_eff h h0)
/-- the bit of a step, as a long -/
theorem k_bit {v : Int32} {p : Nat} (h : v.toInt = (p : Int) - 1) (h1 : 1 ≤ p) (h2 : p ≤ 24) : ((1 : Int64) <<< (((23 : Int32) - v).toInt64 &&& 63)).toInt = btP p := by
  have hv : v = Int32.ofInt ((p : Int) - 1) := by rw [← h, Int32.ofInt_toInt]
  have key : ∀ q : Fin 24, ((1 : Int64) <<< (((23 : Int32) - Int32.ofInt (((q.val + 1 : Nat) : Int) - 1)).toInt64 &&& 63)).toInt = btP (q.val + 1) := by decide +kernel
  have g := key ⟨p - 1, by omega⟩
  rw [show p - 1 + 1 = p by omega] at g
  rw [hv]
  exact g
/-- a small number moved up -/
theorem k_shl41 {v : Int32} {c : Int} (h : v.toInt = c) (h0 : 0 ≤ c) (h1 : c ≤ 1000000) : (v.toInt64 <<< ((41 : Int32).toInt64 &&& 63)).toInt = c * 2199023255552 := by
  have e1 : (41 : Int32).toInt64 &&& 63 = (41 : Int64) := by decide
  rw [e1]
  have e2 : v.toInt64 <<< (41 : Int64) = v.toInt64 * (2199023255552 : Int64) := by
    rw [show (2199023255552 : Int64) = Int64.ofBitVec (BitVec.ofNat 64 (2 ^ 41)) from rfl]
    apply Int64.toBitVec_inj.mp
    rw [Int64.toBitVec_shiftLeft, Int64.toBitVec_mul]
    show v.toInt64.toBitVec <<< (BitVec.smod (41#64) 64#64) = v.toInt64.toBitVec * BitVec.ofNat 64 (2 ^ 41)
    rw [show BitVec.smod (41#64) 64#64 = 41#64 by decide]
    rw [BitVec.shiftLeft_eq']
    rw [show (41#64).toNat = 41 from rfl, BitVec.shiftLeft_eq_mul_twoPow]
    rfl
  rw [e2]
  exact l_mul (lq_of h) (show (2199023255552 : Int64).toInt = 2199023255552 from rfl) (by omega) (by omega)
theorem k_shl29 {v : Int32} {c : Int} (h : v.toInt = c) (h0 : 0 ≤ c) (h1 : c ≤ 1000000) : (v.toInt64 <<< ((29 : Int32).toInt64 &&& 63)).toInt = c * 536870912 := by
  have e1 : (29 : Int32).toInt64 &&& 63 = (29 : Int64) := by decide
  rw [e1]
  have e2 : v.toInt64 <<< (29 : Int64) = v.toInt64 * (536870912 : Int64) := by
    apply Int64.toBitVec_inj.mp
    rw [Int64.toBitVec_shiftLeft, Int64.toBitVec_mul]
    show v.toInt64.toBitVec <<< (BitVec.smod (29#64) 64#64) = v.toInt64.toBitVec * BitVec.ofNat 64 (2 ^ 29)
    rw [show BitVec.smod (29#64) 64#64 = 29#64 by decide]
    rw [BitVec.shiftLeft_eq']
    rw [show (29#64).toNat = 29 from rfl, BitVec.shiftLeft_eq_mul_twoPow]
    rfl
  rw [e2]
  exact l_mul (lq_of h) (show (536870912 : Int64).toInt = 536870912 from rfl) (by omega) (by omega)
theorem c_keyOf {Z : jZ} {I : jI} {L : jL} (v0 : Nat) (v1 v2 : Int32) (uC uE : Nat) (hC : jr Z v0 4 = some uC) (hE : jr Z v0 5 = some uE) (p far : Nat) (e1 : v1.toInt = (p : Int)) (e2 : v2.toInt = (far : Int)) (hp : 1 ≤ p ∧ p ≤ 24) (hf : 1 ≤ far ∧ far ≤ 3) {C E : Nat → Nat → Int} (hc : (I uC (3 * p + far - 1)).toInt = C p far) (he : (I uE (3 * p + far - 1)).toInt = E p far) (bc : 0 ≤ C p far ∧ C p far ≤ 297) (be : 0 ≤ E p far ∧ E p far ≤ 600) {Q : Int64 → jI → jL → Prop} (hQ : ∀ r : Int64, r.toInt = mvK C E p far → Q r I L) : f_X6_keyOf v0 v1 v2 Z I L Q := by
  unfold f_X6_keyOf f_X6_moveTo
  have t : (((v1 * (3 : Int32)) + v2) - (1 : Int32)).toInt = 3 * (p : Int) + (far : Int) - 1 := (i_sub (i_add (i_mul e1 (show (3 : Int32).toInt = 3 from rfl) (by omega) (by omega)) e2 (by omega) (by omega)) (show (1 : Int32).toInt = 1 from rfl) (by omega) (by omega)).trans (by omega)
  have q := i_nat t (by omega)
  have q : (((v1 * (3 : Int32)) + v2) - (1 : Int32)).toNatClampNeg = 3 * p + far - 1 := by omega
  intro b8 h8
  cases hC.symm.trans h8
  refine ⟨vi_of t (by omega) (by omega), ?_⟩
  intro b10 h10
  cases hE.symm.trans h10
  refine ⟨vi_of t (by omega) (by omega), ?_⟩
  unfold f_X11_bitOf
  rw [q]
  refine hQ _ ?_
  have k1 := k_shl41 hc (by omega) (by omega)
  have k2 := k_shl29 he (by omega) (by omega)
  have k3 := k_bit (v := v1 - (1 : Int32)) (p := p) (i_sub e1 (show (1 : Int32).toInt = 1 from rfl) (by omega) (by omega)) hp.1 hp.2
  have b0 := btP_pos p
  have b1 : btP p ≤ 16777216 := by
    have := btP_less hp.2 p hp.1 (Nat.le_refl _)
    rw [Nat.sub_self, show btP 0 = 16777216 from rfl] at this
    omega
  have s1 := l_add k1 k2 (by omega) (by omega)
  have s2 := l_add s1 (show (16777216 : Int64).toInt = 16777216 from rfl) (by omega) (by omega)
  rw [l_sub s2 k3 (by omega) (by omega)]
  rfl
/-! ===== Rows: what they tell ===== -/
/-- the arrays of a Rows -/
def RCs (Z : jZ) (a b0 b1 b2 b4 b5 b6 b7 : Nat) : Prop := jr Z a 0 = some b0 ∧ jr Z a 1 = some b1 ∧ jr Z a 2 = some b2 ∧ jr Z a 4 = some b4 ∧ jr Z a 5 = some b5 ∧ jr Z a 6 = some b6 ∧ jr Z a 7 = some b7
/-- its rows -/
def RRb (I : jI) (L : jL) (b0 b1 b2 : Nat) (R : Nat → List Int) : Prop := ∀ p, p < 25 → (I b2 p).toInt = ((R p).length : Int) ∧ ∀ (i : Nat) (x : Int), (R p)[i]? = some x → (L b0 ((I b1 p).toNatClampNeg + i)).toInt = x
/-- what is merged: rows 0 .. m - 1 of it -/
def MGb (I : jI) (L : jL) (a b0 b4 b5 b6 b7 : Nat) (S : Nat → List Int) (m : Nat) : Prop := m ≤ 3 ∧ (I a 8).toInt = (m : Int) ∧ (I a 9).toInt = (cnS S m : Int) ∧ ∀ i, i < m → 0 ≤ (I b4 i).toInt ∧ (I b5 i).toInt = (I b4 i).toInt + ((S i).length : Int) ∧ (I b5 i).toInt ≤ (I a 3).toInt ∧ (L b7 i).toInt = hdB (S i) ∧ ∀ (k : Nat) (x : Int), (S i)[k]? = some x → (L b0 ((I b4 i).toNatClampNeg + k)).toInt + (L b6 i).toInt = x ∧ 0 ≤ x ∧ x < BIG
/-- its row in progress ends where all is filled -/
def CUr (I : jI) (a b1 : Nat) (R : Nat → List Int) (p : Nat) : Prop := (I b1 p).toInt + ((R p).length : Int) = (I a 3).toInt ∧ 0 ≤ (I b1 p).toInt
theorem RC_ne {Z : jZ} {I : jI} {a b0 b1 b2 b4 b5 b6 b7 : Nat} (w : WD Z I) (ha : jk Z a 7) (c : RCs Z a b0 b1 b2 b4 b5 b6 b7) : b0 ≠ b6 ∧ b0 ≠ b7 ∧ b6 ≠ b7 ∧ jk Z b0 15 ∧ jk Z b6 15 ∧ jk Z b7 15 ∧ jlen Z b6 = 3 ∧ jlen Z b7 = 3 ∧ (∀ x, jk Z x 15 → x ≠ a ∧ x ≠ b1 ∧ x ≠ b2 ∧ x ≠ b4 ∧ x ≠ b5) := by
  obtain ⟨e0, e1, e2, e4, e5, e6, e7⟩ := c
  obtain ⟨x, ex, k0⟩ := sh_o w.1 ha (j := 0) (k := 15) rfl
  cases e0.symm.trans ex
  obtain ⟨x, ex, k1, -⟩ := sh_f w.1 ha (j := 1) (k := 14) (m := 25) rfl
  cases e1.symm.trans ex
  obtain ⟨x, ex, k2, -⟩ := sh_f w.1 ha (j := 2) (k := 14) (m := 25) rfl
  cases e2.symm.trans ex
  obtain ⟨x, ex, k4, -⟩ := sh_f w.1 ha (j := 4) (k := 14) (m := 3) rfl
  cases e4.symm.trans ex
  obtain ⟨x, ex, k5, -⟩ := sh_f w.1 ha (j := 5) (k := 14) (m := 3) rfl
  cases e5.symm.trans ex
  obtain ⟨x, ex, k6, l6⟩ := sh_f w.1 ha (j := 6) (k := 15) (m := 3) rfl
  cases e6.symm.trans ex
  obtain ⟨x, ex, k7, l7⟩ := sh_f w.1 ha (j := 7) (k := 15) (m := 3) rfl
  cases e7.symm.trans ex
  have un : ∀ i j b b', jr Z a i = some b → jr Z a j = some b' → i ≠ j → b ≠ b' := fun i j b b' h1 h2 hn q => by
    subst q
    exact hn (w.2.1.2.2 a 7 i a 7 j b ha ha h1 h2 (by simp [jsr]) (by simp [jsr])).2
  refine ⟨un 0 6 _ _ e0 e6 (by decide), un 0 7 _ _ e0 e7 (by decide), un 6 7 _ _ e6 e7 (by decide), k0, k6, k7, l6, l7, fun x hx => ?_⟩
  exact ⟨ks_ne hx ha (by decide), ks_ne hx k1 (by decide), ks_ne hx k2 (by decide), ks_ne hx k4 (by decide), ks_ne hx k5 (by decide)⟩
theorem jpL_ne {L : jL} {a b i : Nat} {v : Int64} (h : b ≠ a) : jpL L a i v b = L b := by
  show va_up L a (vp_updL (L a) i v) b = L b
  exact va_up_ne _ _ h
set_option maxHeartbeats 1000000 in
theorem r_X7_start {Z : jZ} {I : jI} {L : jL} (w_I : WD Z I) (v0 : Nat) (v1 : Int32) (kv0 : jk Z v0 7) (b0 b1 b2 b4 b5 b6 b7 : Nat) (hc : RCs Z v0 b0 b1 b2 b4 b5 b6 b7) (p : Nat) (ev : v1.toInt = (p : Int)) (hp : p < 25) (R : Nat → List Int) (hR : RRb I L b0 b1 b2 R) {Q : jI → jL → Prop}
    (hQ : ∀ (I' : jI), WD Z I' → FR W7 Z I Z I' → FI Z I' v0 p → RO v0 Z I I' → I' v0 3 = I v0 3 → RRb I' L b0 b1 b2 (fun q => if q = p then [] else R q) → MGb I' L v0 b0 b4 b5 b6 b7 (fun _ => []) 0 → CUr I' v0 b1 (fun q => if q = p then [] else R q) p → Q I' L) : f_X7_start v0 v1 Z I L Q := by
  obtain ⟨g0, g1, g2, g4, g5, g6, g7⟩ := hc
  obtain ⟨c0, c1, c2, c4, c5, e0, e1, e2, e4, e5, k0, k1, k2, k4, k5, n1, n2, n4, n5, n12, n14, n15, n24, n25, n45, r1, r2, r3, r4, r5, r6⟩ := rows_at w_I kv0
  cases g0.symm.trans e0; cases g1.symm.trans e1; cases g2.symm.trans e2; cases g4.symm.trans e4; cases g5.symm.trans e5
  have qn : v1.toNatClampNeg = p := by have := i_nat ev (by omega); omega
  have hi : vp_in v1 25 := vi_of ev (by omega) (by omega)
  unfold f_X7_start
  have z0 : (0 : Int32).toInt = 0 := rfl
  have end_ : ∀ I5 : jI, I5 = jpI (jpI I b1 p (I v0 3)) b2 p (0 : Int32) → f_X7_start_b27 Z Q v0 I5 L := by
    intro I5 e
    unfold f_X7_start_b27
    intro I6 e6 I7 e7
    have a3 : I7 v0 3 = I v0 3 := by rw [e7, jpI_off (by decide), e6, jpI_off (by decide), e, jpI_ne n2, jpI_ne n1]
    have a8 : I7 v0 8 = 0 := by rw [e7, jpI_off (by decide), e6, jpI_at]
    have a9 : I7 v0 9 = 0 := by rw [e7, jpI_at]
    have c2 : ∀ q, I7 b2 q = if q = p then 0 else I b2 q := fun q => by
      rw [e7, jpI_ne n2.symm, e6, jpI_ne n2.symm, e]
      by_cases h : q = p
      · rw [if_pos h, h, jpI_at]
      · rw [if_neg h, jpI_off h, jpI_ne n12.symm]
    have c1 : ∀ q, I7 b1 q = if q = p then I v0 3 else I b1 q := fun q => by
      rw [e7, jpI_ne n1.symm, e6, jpI_ne n1.symm, e, jpI_ne n12]
      by_cases h : q = p
      · rw [if_pos h, h, jpI_at]
      · rw [if_neg h, jpI_off h]
    obtain ⟨g1, g2, g3⟩ := WD_rows (I' := I7) w_I kv0 e0 e1 e2 e4 e5 (fun x x0 x1 x2 x4 x5 => by rw [e7, jpI_ne x0, e6, jpI_ne x0, e, jpI_ne x2, jpI_ne x1]) (fun j j3 j8 j9 => by rw [e7, jpI_off j9, e6, jpI_off j8, e, jpI_ne n2, jpI_ne n1]) (by
      unfold RI1
      rw [a3, a8, a9, z0]
      refine ⟨r1, r2, r3, fun q hq => ?_, by omega, fun q hq => by omega⟩
      rw [c1, c2]
      by_cases h : q = p
      · rw [if_pos h, if_pos h, z0]; omega
      · rw [if_neg h, if_neg h]; exact r4 q hq)
    refine hQ I7 g1 g2 (fun b hb => ?_) g3 a3 (fun q hq => ?_) ⟨by omega, by rw [a8]; rfl, by rw [a9]; rfl, fun i hi => by omega⟩ ⟨?_, ?_⟩
    · cases e1.symm.trans hb
      rw [c1, if_pos rfl, a3]
      omega
    · show (I7 b2 q).toInt = (((if q = p then [] else R q) : List Int).length : Int) ∧ ∀ (i : Nat) (x : Int), ((if q = p then [] else R q) : List Int)[i]? = some x → _
      by_cases h : q = p
      · rw [if_pos h, c2, if_pos h]
        exact ⟨rfl, fun i x hx => by cases hx⟩
      · rw [if_neg h, c2, if_neg h, c1, if_neg h]
        exact hR q hq
    · show (I7 b1 p).toInt + (((if p = p then [] else R p) : List Int).length : Int) = _
      rw [if_pos rfl, c1, if_pos rfl, a3]
      show (I v0 3).toInt + 0 = _
      omega
    · rw [c1, if_pos rfl]; omega
  refine ⟨fun c => absurd ((i_lt ev z0).mp c) (by omega), fun _ => ⟨fun c => absurd ((i_le (show (25 : Int32).toInt = 25 from rfl) ev).mp c) (by omega), fun _ => ?_⟩⟩
  intro b h
  cases e1.symm.trans h
  refine ⟨hi, fun I1 q1 b h => ?_⟩
  cases e2.symm.trans h
  refine ⟨hi, fun I2 q2 => end_ I2 ?_⟩
  rw [q2, q1, qn]
theorem r_X7_sizeAt {Z : jZ} {I : jI} {L : jL} (v0 : Nat) (v1 : Int32) (b0 b1 b2 b4 b5 b6 b7 : Nat) (hc : RCs Z v0 b0 b1 b2 b4 b5 b6 b7) (p : Nat) (ev : v1.toInt = (p : Int)) (hp : p < 25) (R : Nat → List Int) (hR : RRb I L b0 b1 b2 R) {Q : Int32 → jI → jL → Prop}
    (hQ : ∀ r : Int32, r.toInt = ((R p).length : Int) → Q r I L) : f_X7_sizeAt v0 v1 Z I L Q := by
  have z0 : (0 : Int32).toInt = 0 := rfl
  have qn : v1.toNatClampNeg = p := by have := i_nat ev (by omega); omega
  unfold f_X7_sizeAt
  refine ⟨fun c => absurd ((i_lt ev z0).mp c) (by omega), fun _ => ⟨fun c => absurd ((i_le (show (25 : Int32).toInt = 25 from rfl) ev).mp c) (by omega), fun _ => ?_⟩⟩
  intro b h
  cases hc.2.2.1.symm.trans h
  refine ⟨vi_of ev (by omega) (by omega), hQ _ ?_⟩
  rw [qn]
  exact (hR p hp).1
theorem get_map {l : List Int} {f : Int → Int} {k : Nat} {x : Int} (h : (l.map f)[k]? = some x) : ∃ y, l[k]? = some y ∧ f y = x := by
  rw [List.getElem?_map] at h
  cases hl : l[k]? with
  | none => rw [hl] at h; cases h
  | some y => rw [hl] at h; exact ⟨y, rfl, Option.some.inj h⟩
theorem cnS_cg {S S' : Nat → List Int} : ∀ j, (∀ i, i < j → S' i = S i) → cnS S' j = cnS S j := by
  intro j
  induction j with
  | zero => intro _; rfl
  | succ j ih =>
    intro h
    show cnS S' j + (S' j).length = cnS S j + (S j).length
    rw [ih (fun i hi => h i (by omega)), h j (by omega)]
set_option maxHeartbeats 2000000 in
theorem r_X7_merge {Z : jZ} {I : jI} {L : jL} (w_I : WD Z I) (v0 : Nat) (v1 : Int32) (v2 : Int64) (kv0 : jk Z v0 7) (b0 b1 b2 b4 b5 b6 b7 : Nat) (hc : RCs Z v0 b0 b1 b2 b4 b5 b6 b7) (p : Nat) (ev : v1.toInt = (p : Int)) (hp : p < 25) (R : Nat → List Int) (hR : RRb I L b0 b1 b2 R) (S : Nat → List Int) (m : Nat) (hS : MGb I L v0 b0 b4 b5 b6 b7 S m) (hm : m < 3) (mv : Int) (e2v : v2.toInt = mv) (hx : ∀ x, x ∈ R p → 0 ≤ x + mv ∧ x + mv < BIG) {Q : jI → jL → Prop}
    (h0 : R p = [] → Q I L)
    (hQ : ∀ (I' : jI) (L' : jL), WD Z I' → FR W7 Z I Z I' → (∀ p, FI Z I v0 p → FI Z I' v0 p) → RO v0 Z I I' → I' v0 3 = I v0 3 → I' b1 = I b1 → R p ≠ [] → RRb I' L' b0 b1 b2 R → MGb I' L' v0 b0 b4 b5 b6 b7 (fun i => if i = m then (R p).map (fun x => x + mv) else S i) (m + 1) → (∀ x, x ≠ b6 → x ≠ b7 → L' x = L x) → Q I' L') : f_X7_merge v0 v1 v2 Z I L Q := by
  obtain ⟨q06, q07, q67, kk0, k6, k7, l6, l7, -⟩ := RC_ne w_I kv0 hc
  have hcc := hc
  obtain ⟨g0, g1, g2, g4, g5, g6, g7⟩ := hc
  obtain ⟨c0, c1, c2, c4, c5, e0, e1, e2, e4, e5, k0, k1, k2, k4, k5, n1, n2, n4, n5, n12, n14, n15, n24, n25, n45, r1, r2, r3, r4, r5, r6⟩ := rows_at w_I kv0
  cases g0.symm.trans e0; cases g1.symm.trans e1; cases g2.symm.trans e2; cases g4.symm.trans e4; cases g5.symm.trans e5
  have z0 : (0 : Int32).toInt = 0 := rfl
  have z1 : (1 : Int32).toInt = 1 := rfl
  have qn : v1.toNatClampNeg = p := by have := i_nat ev (by omega); omega
  obtain ⟨m3, m8, m9, mg⟩ := hS
  have hsz := (hR p hp).1
  have r4p := r4 p hp
  unfold f_X7_merge
  refine r_X7_sizeAt v0 v1 b0 b1 b2 b4 b5 b6 b7 hcc p ev hp R hR (fun r er => ⟨fun c => ?_, fun c => ⟨fun c2 => ?_, fun c2 => ?_⟩⟩)
  · have c := (i_le er z0).mp c
    refine h0 (List.eq_nil_of_length_eq_zero (by omega))
  · have c2 := (i_le (show (3 : Int32).toInt = 3 from rfl) m8).mp c2
    omega
  have hlen := (not_congr (i_le er z0)).mp c
  have r4q := r4p.2 (by omega)
  have vi1 : vp_in v1 25 := vi_of ev (by omega) (by omega)
  have hmn : (I v0 8).toNatClampNeg = m := by have := i_nat m8 (by omega); omega
  intro b h; cases e4.symm.trans h
  intro b h; cases e1.symm.trans h
  refine ⟨vi1, vi_of m8 (by omega) (by omega), fun I1 q1 => ?_⟩
  rw [qn, hmn] at q1
  have a8 : I1 v0 8 = I v0 8 := by rw [q1, jpI_ne n4]
  intro b h; cases e5.symm.trans h
  intro b h; cases e1.symm.trans h
  refine ⟨vi1, vi_of (show (I1 v0 8).toInt = (m : Int) by rw [a8]; exact m8) (by omega) (by omega), fun I2 q2 => ?_⟩
  rw [a8, qn, hmn] at q2
  have a8 : I2 v0 8 = I v0 8 := by rw [q2, jpI_ne n5, a8]
  intro b h; cases g6.symm.trans h
  refine ⟨vi_of (show (I2 v0 8).toInt = (m : Int) by rw [a8]; exact m8) (by omega) (by omega), fun L3 q3 => ?_⟩
  rw [a8, hmn] at q3
  intro b h; cases g7.symm.trans h
  intro b h; cases e0.symm.trans h
  intro b h; cases e1.symm.trans h
  have f1 : I2 b1 = I b1 := by rw [q2, jpI_ne n15, q1, jpI_ne n14]
  refine ⟨vi1, vi_of (by rw [f1, qn]) (by omega) (by omega), vi_of (show (I2 v0 8).toInt = (m : Int) by rw [a8]; exact m8) (by omega) (by omega), fun L4 q4 I5 q5 I6 q6 => ?_⟩
  rw [a8, f1, qn, hmn] at q4
  have a3 : I6 v0 3 = I v0 3 := by rw [q6, jpI_off (by decide), q5, jpI_off (by decide), q2, jpI_ne n5, q1, jpI_ne n4]
  have t8 : (I6 v0 8).toInt = (I v0 8).toInt + 1 := by
    rw [q6, jpI_off (by decide), q5, jpI_at, a8]
    exact i_add rfl z1 (by omega) (by omega)
  have t9 : (I6 v0 9).toInt = (I v0 9).toInt + r.toInt := by
    rw [q6, jpI_at, q5, jpI_off (by decide), q2, jpI_ne n5, q1, jpI_ne n4]
    exact i_add rfl rfl (by omega) (by omega)
  have c1 : I6 b1 = I b1 := by rw [q6, jpI_ne n1.symm, q5, jpI_ne n1.symm, f1]
  have c2 : I6 b2 = I b2 := by rw [q6, jpI_ne n2.symm, q5, jpI_ne n2.symm, q2, jpI_ne n25, q1, jpI_ne n24]
  have c4 : ∀ i, I6 b4 i = if i = m then I b1 p else I b4 i := fun i => by
    rw [q6, jpI_ne n4.symm, q5, jpI_ne n4.symm, q2, jpI_ne n45, q1]
    by_cases q : i = m
    · rw [if_pos q, q, jpI_at]
    · rw [if_neg q, jpI_off q]
  have c5 : ∀ i, I6 b5 i = if i = m then I b1 p + r else I b5 i := fun i => by
    rw [q6, jpI_ne n5.symm, q5, jpI_ne n5.symm, q2]
    by_cases q : i = m
    · rw [if_pos q, q, jpI_at, q1, jpI_ne n14]
    · rw [if_neg q, jpI_off q, q1, jpI_ne n45.symm]
  obtain ⟨g1', g2', g3'⟩ := WD_rows (I' := I6) w_I kv0 e0 e1 e2 e4 e5 (fun x x0 x1 x2 x4 x5 => by rw [q6, jpI_ne x0, q5, jpI_ne x0, q2, jpI_ne x5, q1, jpI_ne x4]) (fun j j3 j8 j9 => by rw [q6, jpI_off j9, q5, jpI_off j8, q2, jpI_ne n5, q1, jpI_ne n4]) (by
    unfold RI1
    rw [a3, t8, t9, c1, c2]
    refine ⟨r1, r2, r3, r4, by omega, fun i hi => ?_⟩
    rw [c4]
    by_cases q : i = m
    · rw [if_pos q]; omega
    · rw [if_neg q]
      have := r6 i (by omega)
      omega)
  have lo : ∀ x, x ≠ b6 → x ≠ b7 → L4 x = L x := fun x x6 x7 => by rw [q4, jpL_ne x7, q3, jpL_ne x6]
  have d6 : ∀ i, L4 b6 i = if i = m then v2 else L b6 i := fun i => by
    rw [q4, jpL_ne q67, q3]
    by_cases q : i = m
    · rw [if_pos q, q, jpL_at]
    · rw [if_neg q, jpL_off q]
  have l0 : L3 b0 = L b0 := by rw [q3, jpL_ne q06]
  have d7 : ∀ i, L4 b7 i = if i = m then L b0 (I b1 p).toNatClampNeg + v2 else L b7 i := fun i => by
    rw [q4]
    by_cases q : i = m
    · rw [if_pos q, q, jpL_at, l0]
    · rw [if_neg q, jpL_off q, q3, jpL_ne (fun e => q67 e.symm)]
  have nn : R p ≠ [] := fun e => by rw [e] at hlen; exact hlen (Int.le_refl 0)
  refine hQ I6 L4 g1' g2' (fun p hp b hb => by rw [a3]; cases e1.symm.trans hb; rw [c1]; exact hp b1 e1) g3' a3 c1 nn (fun q hq => ?_) ⟨by omega, by omega, ?_, fun i hi => ?_⟩ lo
  · rw [c1, c2, lo b0 q06 q07]
    exact hR q hq
  · show _ = ((cnS (fun i => if i = m then (R p).map (fun x => x + mv) else S i) m + (if m = m then (R p).map (fun x => x + mv) else S m).length : Nat) : Int)
    rw [if_pos rfl, List.length_map, cnS_cg m (fun i hi => if_neg (by omega)), t9, m9, er]
    omega
  · show 0 ≤ (I6 b4 i).toInt ∧ (I6 b5 i).toInt = (I6 b4 i).toInt + ((if i = m then (R p).map (fun x => x + mv) else S i).length : Int) ∧ (I6 b5 i).toInt ≤ (I6 v0 3).toInt ∧ (L4 b7 i).toInt = hdB (if i = m then (R p).map (fun x => x + mv) else S i) ∧ ∀ (k : Nat) (x : Int), (if i = m then (R p).map (fun x => x + mv) else S i)[k]? = some x → _
    by_cases q : i = m
    · rw [if_pos q, c4, if_pos q, c5, if_pos q, d7, if_pos q, d6, if_pos q, a3, lo b0 q06 q07, List.length_map]
      have t5 : (I b1 p + r).toInt = (I b1 p).toInt + ((R p).length : Int) := i_add rfl er (by omega) (by omega)
      refine ⟨by omega, t5, by omega, ?_, fun k x hk => ?_⟩
      · match hl : R p with
        | [] => exact absurd hl nn
        | y :: t =>
          have hy := (hR p hp).2 0 y (by rw [hl]; rfl)
          rw [Nat.add_zero] at hy
          have hb := hx y (by rw [hl]; exact List.mem_cons_self)
          unfold BIG at hb
          show _ = y + mv
          exact l_add hy e2v (by omega) (by omega)
      · obtain ⟨y, hy, ey⟩ := get_map hk
        have hb := hx y (List.mem_of_getElem? hy)
        have h9 := (hR p hp).2 k y hy
        rw [h9, e2v, ey]
        have ey : y + mv = x := ey
        rw [ey] at hb
        exact ⟨rfl, hb⟩
    · rw [if_neg q, c4, if_neg q, c5, if_neg q, d7, if_neg q, d6, if_neg q, a3, lo b0 q06 q07]
      exact mg i (by omega)
/-! ===== Rows: take, push, keepCheapest ===== -/
theorem cn_some {S : Nat → List Int} : ∀ m, cnS S m ≠ 0 → ∃ i, i < m ∧ (S i).length ≠ 0 := by
  intro m
  induction m with
  | zero => intro h; exact absurd rfl h
  | succ m ih =>
    intro h
    by_cases c : (S m).length = 0
    · have e : cnS S (m + 1) = cnS S m + (S m).length := rfl
      obtain ⟨i, hi, hl⟩ := ih (by omega)
      exact ⟨i, by omega, hl⟩
    · exact ⟨m, by omega, c⟩
/-- where the least head stands there is one -/
theorem wh_some {S : Nat → List Int} {m : Nat} (hs : ∀ i, srt (S i)) (hB : ∀ i x, x ∈ S i → x < BIG) (hm : 1 ≤ m) (hc : cnS S m ≠ 0) : (S (wh (fun i => hdB (S i)) (m - 1))).length ≠ 0 ∧ wh (fun i => hdB (S i)) (m - 1) < m := by
  obtain ⟨i, hi, hl⟩ := cn_some m hc
  have h1 := wh_le (fun i => hdB (S i)) (m - 1)
  exact ⟨(wh_ne hs (show i ≤ m - 1 by omega) (hd_mem hl) (hB i _ (hd_mem hl))).1, by omega⟩
theorem tl_get {l : List Int} {k : Nat} {x : Int} (h : l.tail[k]? = some x) : l[k + 1]? = some x := by
  match l, h with
  | [], h => cases h
  | y :: t, h => exact h
theorem hd_get {l : List Int} {y : Int} (h : l[0]? = some y) : hdB l = y := by
  match l, h with
  | z :: t, h => exact Option.some.inj h
theorem hd_nil {l : List Int} (h : l.length = 0) : hdB l = BIG := by
  rw [List.eq_nil_of_length_eq_zero h]
  rfl
set_option maxHeartbeats 2000000 in
theorem c_take_L4 {Z : jZ} {I : jI} {L : jL} (w_I : WD Z I) (v0 : Nat) (kv0 : jk Z v0 7) (b0 b1 b2 b4 b5 b6 b7 : Nat) (hc : RCs Z v0 b0 b1 b2 b4 b5 b6 b7) (S : Nat → List Int) (m : Nat) (hS : MGb I L v0 b0 b4 b5 b6 b7 S m) (hm : 1 ≤ m) (hcn : cnS S m ≠ 0) (hs : ∀ i, srt (S i)) (hB : ∀ i x, x ∈ S i → x < BIG) {Q : Int64 → jI → jL → Prop}
    (hQ : ∀ (r : Int64) (I' : jI) (L' : jL), WD Z I' → FR W7 Z I Z I' → (∀ p, FI Z I v0 p → FI Z I' v0 p) → RO v0 Z I I' → I' v0 3 = I v0 3 → I' b1 = I b1 → I' b2 = I b2 → r.toInt = hdB (S (wh (fun i => hdB (S i)) (m - 1))) → MGb I' L' v0 b0 b4 b5 b6 b7 (tkS S (wh (fun i => hdB (S i)) (m - 1))) m → (∀ x, x ≠ b7 → L' x = L x) → Q r I' L') :
    ∀ (n k : Nat) (v1 v2 : Int32), v2.toInt = ((k + 1 : Nat) : Int) → k + 1 ≤ m → v1.toInt = (wh (fun i => hdB (S i)) k : Int) → 4 ≤ n + k → f_X7_take_L4 Z Q n v0 v1 v2 I L := by
  obtain ⟨q06, q07, q67, kk0, k6, k7, l6, l7, -⟩ := RC_ne w_I kv0 hc
  obtain ⟨g0, g1, g2, g4, g5, g6, g7⟩ := hc
  obtain ⟨c0, c1, c2, c4, c5, e0, e1, e2, e4, e5, k0, k1, k2, k4, k5, n1, n2, n4, n5, n12, n14, n15, n24, n25, n45, r1, r2, r3, r4, r5, r6⟩ := rows_at w_I kv0
  cases g0.symm.trans e0; cases g1.symm.trans e1; cases g2.symm.trans e2; cases g4.symm.trans e4; cases g5.symm.trans e5
  have z0 : (0 : Int32).toInt = 0 := rfl
  have z1 : (1 : Int32).toInt = 1 := rfl
  obtain ⟨m3, m8, m9, mg⟩ := hS
  obtain ⟨hwl, hwm⟩ := wh_some hs hB hm hcn
  intro n
  induction n with
  | zero => intro k v1 v2 e2v hk e1v hn; omega
  | succ n ih =>
    intro k v1 v2 e2v hk e1v hn
    have hwk := wh_le (fun i => hdB (S i)) k
    have qv1 : v1.toNatClampNeg = wh (fun i => hdB (S i)) k := by have := i_nat e1v (by omega); omega
    unfold f_X7_take_L4
    refine ⟨fun c => ⟨fun c2 => ?_, fun c2 => ?_⟩, fun c => ?_⟩
    · have c := (i_le m8 e2v).mp c
      have ek : k = m - 1 := by omega
      rw [ek] at e1v qv1
      generalize hw : wh (fun i => hdB (S i)) (m - 1) = w at e1v qv1 hwl hwm hQ
      have vi : vp_in v1 3 := vi_of e1v (by omega) (by omega)
      obtain ⟨p1, p2, p3, p4, p5⟩ := mg w hwm
      intro b h; cases g7.symm.trans h
      refine ⟨vi, fun x9 ex9 => ?_⟩
      rw [qv1] at ex9
      intro b h; cases e4.symm.trans h
      refine ⟨vi, vi, fun I1 q1 => ?_⟩
      rw [qv1] at q1
      have h6 := r6 w (by omega)
      have t1 := i_add (x := I b4 w) rfl z1 (by omega) (by omega)
      have hcn2 := (cnS_tk hwl m).2 hwm
      have hnw : (I b4 w).toNatClampNeg + 1 = (I b4 w + 1).toNatClampNeg := by
        have a := i_nat (x := I b4 w) rfl p1
        have b := i_nat t1 (by omega)
        omega
      have last : ∀ (s2 : Int64), s2.toInt = hdB ((S w).tail) → f_X7_take_b122 Z Q v0 x9 b7 v1 s2 I1 L := fun s2 hs2 => by
        unfold f_X7_take_b122
        refine ⟨by rw [l7]; exact vi_of e1v (by omega) (by omega), fun L2 q2 I3 q3 => ?_⟩
        rw [qv1] at q2
        have a3 : I3 v0 3 = I v0 3 := by rw [q3, jpI_off (by decide), q1, jpI_ne n4]
        have a8 : I3 v0 8 = I v0 8 := by rw [q3, jpI_off (by decide), q1, jpI_ne n4]
        have t9 : (I3 v0 9).toInt = (I v0 9).toInt - 1 := by
          rw [q3, jpI_at, q1, jpI_ne n4]
          exact i_sub rfl z1 (by omega) (by omega)
        have c1 : I3 b1 = I b1 := by rw [q3, jpI_ne n1.symm, q1, jpI_ne n14]
        have c2 : I3 b2 = I b2 := by rw [q3, jpI_ne n2.symm, q1, jpI_ne n24]
        have c5 : I3 b5 = I b5 := by rw [q3, jpI_ne n5.symm, q1, jpI_ne n45.symm]
        have c4 : ∀ p, I3 b4 p = if p = w then I b4 w + 1 else I b4 p := fun p => by
          rw [q3, jpI_ne n4.symm, q1]
          by_cases q : p = w
          · rw [if_pos q, q, jpI_at]
          · rw [if_neg q, jpI_off q]
        obtain ⟨g1', g2', g3'⟩ := WD_rows (I' := I3) w_I kv0 e0 e1 e2 e4 e5 (fun x x0 x1 x2 x4 x5 => by rw [q3, jpI_ne x0, q1, jpI_ne x4]) (fun j j3 j8 j9 => by rw [q3, jpI_off j9, q1, jpI_ne n4]) (by
          unfold RI1
          rw [a3, a8, t9, c1, c2]
          refine ⟨r1, r2, r3, r4, by omega, fun p hp => ?_⟩
          rw [c4]
          by_cases q : p = w
          · rw [if_pos q]
            have : (I b4 w + 1).toInt = (I b4 w).toInt + 1 := t1
            omega
          · rw [if_neg q]
            have := r6 p hp
            omega)
        have lo : ∀ x, x ≠ b7 → L2 x = L x := fun x hx => by rw [q2, jpL_ne hx]
        have d7 : ∀ i, L2 b7 i = if i = w then s2 else L b7 i := fun i => by
          rw [q2]
          by_cases q : i = w
          · rw [if_pos q, q, jpL_at]
          · rw [if_neg q, jpL_off q]
        refine hQ _ I3 L2 g1' g2' (fun p hp b hb => by rw [a3]; cases e1.symm.trans hb; rw [c1]; exact hp b1 e1) g3' a3 c1 c2 (by rw [ex9]; exact p4) ⟨m3, by rw [a8]; exact m8, by rw [t9, m9]; omega, fun i hi => ?_⟩ lo
        rw [c4, c5, d7, lo b0 q07, lo b6 (fun e => q67 e), a3]
        by_cases q : i = w
        · subst q
          have et : tkS S i i = (S i).tail := by unfold tkS; rw [if_pos rfl]
          rw [if_pos rfl, if_pos rfl, et, List.length_tail]
          have t1' : (I b4 i + 1).toInt = (I b4 i).toInt + 1 := t1
          refine ⟨by omega, by omega, p3, hs2, fun k x hk => ?_⟩
          have := p5 (k + 1) x (tl_get hk)
          rw [← hnw, show (I b4 i).toNatClampNeg + 1 + k = (I b4 i).toNatClampNeg + (k + 1) by omega]
          exact this
        · have et : tkS S w i = S i := by unfold tkS; rw [if_neg q]
          rw [if_neg q, if_neg q, et]
          exact mg i hi
      intro b h; cases e4.symm.trans h
      refine ⟨vi, fun x16 ex16 => ?_⟩
      have tx : x16.toInt = (I b4 w).toInt + 1 := by rw [ex16, qv1, q1, jpI_at]; exact t1
      have c5w : I1 b5 = I b5 := by rw [q1, jpI_ne n45.symm]
      intro b h; cases g7.symm.trans h
      intro b h; cases e5.symm.trans h
      rw [qv1, c5w]
      refine ⟨vi, fun c3 => ?_, fun c3 => ?_⟩
      · have c3 := (i_le (x := I b5 w) rfl tx).mp c3
        unfold f_X7_take_b119
        refine last _ ?_
        rw [hd_nil (l := (S w).tail) (by rw [List.length_tail]; omega)]
        rfl
      have c3 := (not_congr (i_le (x := I b5 w) rfl tx)).mp c3
      intro b h; cases e0.symm.trans h
      refine ⟨fun c4 => ?_, fun c4 => ?_⟩
      · have c4 := (i_le (i_nI (by omega)) tx).mp c4
        omega
      intro b h; cases e0.symm.trans h
      refine ⟨vi_of tx (by omega) (by omega), ?_⟩
      intro b h; cases g6.symm.trans h
      refine ⟨vi, last _ ?_⟩
      have q16 : x16.toNatClampNeg = (I b4 w).toNatClampNeg + 1 := by
        have a := i_nat (x := I b4 w) rfl p1
        have b := i_nat tx (by omega)
        omega
      rw [q16]
      match hl : S w with
      | [] => rw [hl] at hwl; exact absurd rfl hwl
      | [y] =>
        rw [hl] at p2
        have p2 : (I b5 w).toInt = (I b4 w).toInt + 1 := p2
        omega
      | y :: z :: t =>
        obtain ⟨a1, a2, a3⟩ := p5 1 z (by rw [hl]; rfl)
        unfold BIG at a3
        show _ = z
        rw [l_add (x := L b0 ((I b4 w).toNatClampNeg + 1)) (y := L b6 w) rfl rfl (by omega) (by omega)]
        exact a1
    · have c2 := (i_eq m9 z0).mp c2
      omega
    · have c := (not_congr (i_le m8 e2v)).mp c
      have q2v : v2.toNatClampNeg = k + 1 := by have := i_nat e2v (by omega); omega
      have vi1 : vp_in v1 3 := vi_of e1v (by omega) (by omega)
      have vi2 : vp_in v2 3 := vi_of e2v (by omega) (by omega)
      have a1 := (mg (k + 1) (by omega)).2.2.2.1
      have a2 := (mg (wh (fun i => hdB (S i)) k) (by omega)).2.2.2.1
      intro b h; cases g7.symm.trans h
      refine ⟨vi2, ?_⟩
      intro b h; cases g7.symm.trans h
      rw [q2v, qv1]
      have nx : ∀ x : Int32, x = v2 + 1 → x.toInt = ((k + 1 + 1 : Nat) : Int) := fun x ex => by rw [ex]; exact (i_add e2v z1 (by omega) (by omega)).trans (by omega)
      have ew : wh (fun i => hdB (S i)) (k + 1) = if hdB (S (k + 1)) < hdB (S (wh (fun i => hdB (S i)) k)) then k + 1 else wh (fun i => hdB (S i)) k := rfl
      refine ⟨vi1, fun c3 => ?_, fun c3 => ?_⟩
      · have c3 := Int64.le_iff_toInt_le.mp ((lg_cmp_ge _ _).mp c3)
        rw [a1, a2] at c3
        unfold f_X7_take_b33
        intro x ex
        refine ih (k + 1) v1 x (nx x ex) (by omega) ?_ (by omega)
        rw [ew, if_neg (by omega)]
        exact e1v
      · have c3 := fun q => c3 ((lg_cmp_ge _ _).mpr (Int64.le_iff_toInt_le.mpr q))
        rw [a1, a2] at c3
        unfold f_X7_take_b33
        intro x ex
        refine ih (k + 1) v2 x (nx x ex) (by omega) ?_ (by omega)
        rw [ew, if_pos (Int.not_le.mp c3)]
        exact e2v
theorem r_X7_take {Z : jZ} {I : jI} {L : jL} (w_I : WD Z I) (v0 : Nat) (kv0 : jk Z v0 7) (b0 b1 b2 b4 b5 b6 b7 : Nat) (hc : RCs Z v0 b0 b1 b2 b4 b5 b6 b7) (S : Nat → List Int) (m : Nat) (hS : MGb I L v0 b0 b4 b5 b6 b7 S m) (hm : 1 ≤ m) (hcn : cnS S m ≠ 0) (hs : ∀ i, srt (S i)) (hB : ∀ i x, x ∈ S i → x < BIG) {Q : Int64 → jI → jL → Prop}
    (hQ : ∀ (r : Int64) (I' : jI) (L' : jL), WD Z I' → FR W7 Z I Z I' → (∀ p, FI Z I v0 p → FI Z I' v0 p) → RO v0 Z I I' → I' v0 3 = I v0 3 → I' b1 = I b1 → I' b2 = I b2 → r.toInt = hdB (S (wh (fun i => hdB (S i)) (m - 1))) → MGb I' L' v0 b0 b4 b5 b6 b7 (tkS S (wh (fun i => hdB (S i)) (m - 1))) m → (∀ x, x ≠ b7 → L' x = L x) → Q r I' L') : f_X7_take v0 Z I L Q := by
  unfold f_X7_take
  exact ⟨4, c_take_L4 w_I v0 kv0 b0 b1 b2 b4 b5 b6 b7 hc S m hS hm hcn hs hB hQ 4 0 0 1 rfl (by omega) rfl (by omega)⟩
theorem RCs_re {Z Z' : jZ} {a b0 b1 b2 b4 b5 b6 b7 c0 : Nat} (h : RCs Z a b0 b1 b2 b4 b5 b6 b7) (hr : ∀ j, j ≠ 0 → jr Z' a j = jr Z a j) (h0 : jr Z' a 0 = some c0) : RCs Z' a c0 b1 b2 b4 b5 b6 b7 := by
  obtain ⟨g0, g1, g2, g4, g5, g6, g7⟩ := h
  exact ⟨h0, by rw [hr 1 (by decide)]; exact g1, by rw [hr 2 (by decide)]; exact g2, by rw [hr 4 (by decide)]; exact g4, by rw [hr 5 (by decide)]; exact g5, by rw [hr 6 (by decide)]; exact g6, by rw [hr 7 (by decide)]; exact g7⟩
set_option maxHeartbeats 4000000 in
theorem r_X7_push {B : Nat × Nat} {T : Nat} {Z : jZ} {I : jI} {L : jL} (w_I : WD Z I) (bd : BUD B Z T) (v0 : Nat) (v1 : Int32) (v2 : Int64) (kv0 : jk Z v0 7) (b0 b1 b2 b4 b5 b6 b7 : Nat) (hcs : RCs Z v0 b0 b1 b2 b4 b5 b6 b7) (p : Nat) (ev : v1.toInt = (p : Int)) (hp : p < 25) (p2 : (capN Z v0 = 1048576 ∧ (I v0 3).toInt ≤ 1048575) ∨ (I v0 3).toInt ≤ 98304) (key : Int) (ek : v2.toInt = key) (R : Nat → List Int) (hR : RRb I L b0 b1 b2 R) (S : Nat → List Int) (m : Nat) (hS : MGb I L v0 b0 b4 b5 b6 b7 S m) (hcu : CUr I v0 b1 R p) {Q : jZ → jI → jL → Prop}
    (hQ : ∀ (Z' : jZ) (I' : jI) (L' : jL) (c0 : Nat), WD Z' I' → BUD B Z' T → FR W7 Z I Z' I' → CP Z Z' → RO v0 Z I I' → (I' v0 3).toInt = (I v0 3).toInt + 1 → RCs Z' v0 c0 b1 b2 b4 b5 b6 b7 → RRb I' L' c0 b1 b2 (fun q => if q = p then R p ++ [key] else R q) → MGb I' L' v0 c0 b4 b5 b6 b7 S m → CUr I' v0 b1 (fun q => if q = p then R p ++ [key] else R q) p → (c0 = b0 ∨ c0 ∉ Z.1) → (∀ x, x ∈ Z.1 → x ≠ b0 → L' x = L x) → Q Z' I' L') : f_X7_push B v0 v1 v2 Z I L Q := by
  have z0 : (0 : Int32).toInt = 0 := rfl
  have z1 : (1 : Int32).toInt = 1 := rfl
  have qn : v1.toNatClampNeg = p := by have := i_nat ev (by omega); omega
  have vi1 : vp_in v1 25 := vi_of ev (by omega) (by omega)
  -- the second half, in any pool
  have half : ∀ (Z1 : jZ) (I1 : jI) (L1 : jL) (c0 : Nat), WD Z1 I1 → BUD B Z1 T → FR W7 Z I Z1 I1 → CP Z Z1 → jk Z1 v0 7 → I1 v0 3 = I v0 3 → RO v0 Z I I1 → RCs Z1 v0 c0 b1 b2 b4 b5 b6 b7 → RRb I1 L1 c0 b1 b2 R → MGb I1 L1 v0 c0 b4 b5 b6 b7 S m → CUr I1 v0 b1 R p → (I v0 3).toInt < (jlen Z1 c0 : Int) → (c0 = b0 ∨ c0 ∉ Z.1) → (∀ x, x ∈ Z.1 → x ≠ b0 → L1 x = L x) → f_X7_push_b38 B Q v0 v1 v2 Z1 I1 L1 := by
    intro Z1 I1 L1 c0 w b f cp k e3 ot hc1 hR1 hS1 hcu1 hlt hc0 hlo
    obtain ⟨q06, q07, q67, kk0, kk6, kk7, l6, l7, -⟩ := RC_ne w k hc1
    have hcc := hc1
    obtain ⟨g0, g1, g2, g4, g5, g6, g7⟩ := hc1
    obtain ⟨d0, d1, d2, d4, d5, e0, e1, e2, e4, e5, k0, k1, k2, k4, k5, n1, n2, n4, n5, n12, n14, n15, n24, n25, n45, r1, r2, r3, r4, r5, r6⟩ := rows_at w k
    cases g0.symm.trans e0; cases g1.symm.trans e1; cases g2.symm.trans e2; cases g4.symm.trans e4; cases g5.symm.trans e5
    obtain ⟨m3, m8, m9, mg⟩ := hS1
    have hsz := (hR1 p hp).1
    have e3i : (I1 v0 3).toInt = (I v0 3).toInt := by rw [e3]
    obtain ⟨u1, u2⟩ := hcu1
    unfold f_X7_push_b38
    intro b' h; cases e0.symm.trans h
    refine ⟨fun c => ?_, fun c => ⟨fun c2 => ?_, fun _ => ⟨fun c2 => ?_, fun _ => ?_⟩⟩⟩
    · have c := (i_le (i_nI (by omega)) (by rw [e3])).mp c
      omega
    · have c2 := (i_lt ev z0).mp c2
      omega
    · have c2 := (i_le (show (25 : Int32).toInt = 25 from rfl) ev).mp c2
      omega
    intro b' h; cases e0.symm.trans h
    refine ⟨vi_of rfl (by omega) (by rw [e3]; omega), fun L7 q7 I8 q8 => ?_⟩
    intro b' h; cases e2.symm.trans h
    refine ⟨vi1, vi1, fun I9 q9 => ?_⟩
    rw [qn] at q9
    have g4p := r4 p hp
    have qf : ((I1 v0 3).toNatClampNeg : Int) = (I1 v0 3).toInt := i_nat rfl r1.1
    have t3 : (I9 v0 3).toInt = (I1 v0 3).toInt + 1 := by
      rw [q9, jpI_ne n2, q8, jpI_at]
      exact i_add rfl z1 (by omega) (by omega)
    have a8 : I9 v0 8 = I1 v0 8 := by rw [q9, jpI_ne n2, q8, jpI_off (by decide)]
    have a9 : I9 v0 9 = I1 v0 9 := by rw [q9, jpI_ne n2, q8, jpI_off (by decide)]
    have c1 : I9 b1 = I1 b1 := by rw [q9, jpI_ne n12, q8, jpI_ne n1.symm]
    have c4 : I9 b4 = I1 b4 := by rw [q9, jpI_ne n24.symm, q8, jpI_ne n4.symm]
    have c5 : I9 b5 = I1 b5 := by rw [q9, jpI_ne n25.symm, q8, jpI_ne n5.symm]
    have c2 : ∀ q, (I9 b2 q).toInt = if q = p then (I1 b2 p).toInt + 1 else (I1 b2 q).toInt := fun q => by
      rw [q9]
      by_cases h : q = p
      · rw [if_pos h, h, jpI_at, q8, jpI_ne n2.symm]
        exact i_add rfl z1 (by omega) (by omega)
      · rw [if_neg h, jpI_off h, q8, jpI_ne n2.symm]
    obtain ⟨g1', g2', g3'⟩ := WD_rows (I' := I9) w k e0 e1 e2 e4 e5 (fun x x0 x1 x2 x4 x5 => by rw [q9, jpI_ne x2, q8, jpI_ne x0]) (fun j j3 j8 j9 => by rw [q9, jpI_ne n2, q8, jpI_off j3]) (by
      unfold RI1
      rw [t3, a8, a9, c1, c4]
      refine ⟨by omega, r2, r3, fun q hq => ?_, r5, r6⟩
      rw [c2]
      by_cases h : q = p
      · rw [if_pos h, h]; omega
      · rw [if_neg h]
        have := r4 q hq
        refine ⟨this.1, fun h => ?_⟩
        have := this.2 h
        omega)
    have lo : ∀ x, x ≠ c0 → L7 x = L1 x := fun x hx => by rw [q7, jpL_ne hx]
    have l0 : ∀ j, j ≠ (I1 v0 3).toNatClampNeg → L7 c0 j = L1 c0 j := fun j hj => by rw [q7, jpL_off hj]
    refine hQ Z1 I9 L7 c0 g1' b (FR.trans w_I.1 w_I.2.1 f g2') cp (fun x hk hn => by rw [g3' x (f.1 x 7 hk).1 hn]; exact ot x hk hn) (by rw [t3, e3]) hcc (fun q hq => ?_) ⟨m3, by rw [a8]; exact m8, by rw [a9]; exact m9, fun i hi => ?_⟩ ⟨?_, by rw [c1]; exact u2⟩ hc0 (fun x hx hb => ?_)
    · show (I9 b2 q).toInt = (((if q = p then R p ++ [key] else R q) : List Int).length : Int) ∧ ∀ (i : Nat) (x : Int), ((if q = p then R p ++ [key] else R q) : List Int)[i]? = some x → _
      rw [c1]
      by_cases h : q = p
      · rw [if_pos h, c2, if_pos h, h, List.length_append]
        refine ⟨by rw [hsz]; rfl, fun i x hx => ?_⟩
        have qb := i_nat (x := I1 b1 p) rfl u2
        by_cases hi : i < (R p).length
        · rw [List.getElem?_append_left hi] at hx
          rw [l0 _ (by omega)]
          exact (hR1 p hp).2 i x hx
        · rw [List.getElem?_append_right (by omega)] at hx
          have hi2 : i = (R p).length := by
            refine Classical.byContradiction (fun q2 => ?_)
            rw [List.getElem?_eq_none (show [key].length ≤ i - (R p).length by show 1 ≤ i - (R p).length; omega)] at hx
            cases hx
          rw [hi2, Nat.sub_self] at hx
          have hx : some key = some x := hx
          rw [show (I1 b1 p).toNatClampNeg + i = (I1 v0 3).toNatClampNeg by omega, q7, jpL_at, ek]
          exact Option.some.inj hx
      · rw [if_neg h, c2, if_neg h]
        refine ⟨(hR1 q hq).1, fun i x hx => ?_⟩
        have g4q := r4 q hq
        have hs := (hR1 q hq).1
        have hil : i < (R q).length := by
          refine Nat.lt_of_not_le (fun q2 => ?_)
          rw [List.getElem?_eq_none q2] at hx
          cases hx
        have g5q := g4q.2 (by omega)
        have qb := i_nat (x := I1 b1 q) rfl g5q.1
        rw [l0 _ (by omega)]
        exact (hR1 q hq).2 i x hx
    · obtain ⟨p1, p2', p3, p4, p5⟩ := mg i hi
      rw [c4, c5, t3, lo b7 (fun e => q07 e.symm), lo b6 (fun e => q06 e.symm)]
      refine ⟨p1, p2', by omega, p4, fun k' x hx => ?_⟩
      have hil : k' < (S i).length := by
        refine Nat.lt_of_not_le (fun q2 => ?_)
        rw [List.getElem?_eq_none q2] at hx
        cases hx
      have qb := i_nat (x := I1 b4 i) rfl p1
      rw [l0 _ (by omega)]
      exact p5 k' x hx
    · show (I9 b1 p).toInt + (((if p = p then R p ++ [key] else R p) : List Int).length : Int) = _
      rw [if_pos rfl, c1, t3, List.length_append]
      show (I1 b1 p).toInt + (((R p).length + 1 : Nat) : Int) = _
      omega
    · by_cases hxc : x = c0
      · rcases hc0 with h | h
        · rw [hxc] at hb; exact absurd h hb
        · rw [hxc] at hx; exact absurd hx h
      · rw [lo x hxc]; exact hlo x hx hb
  obtain ⟨q06, q07, q67, kk0, kk6, kk7, l6, l7, -⟩ := RC_ne w_I kv0 hcs
  have hcc := hcs
  obtain ⟨g0, g1, g2, g4, g5, g6, g7⟩ := hcs
  obtain ⟨d0, d1, d2, d4, d5, e0, e1, e2, e4, e5, k0, k1, k2, k4, k5, n1, n2, n4, n5, n12, n14, n15, n24, n25, n45, r1, r2, r3, r4, r5, r6⟩ := rows_at w_I kv0
  cases g0.symm.trans e0; cases g1.symm.trans e1; cases g2.symm.trans e2; cases g4.symm.trans e4; cases g5.symm.trans e5
  have same : (I v0 3).toInt < (jlen Z b0 : Int) → f_X7_push_b38 B Q v0 v1 v2 Z I L := fun hlt => half Z I L b0 w_I bd FR.rf CP.rf kv0 rfl (fun _ _ _ => rfl) hcc hR hS hcu hlt (Or.inl rfl) (fun _ _ _ => rfl)
  unfold f_X7_push
  intro b h; cases e0.symm.trans h
  refine ⟨fun c => ?_, fun c => ⟨fun c2 => ?_, fun c2 => ?_⟩⟩
  · have c := (not_congr (i_eq (x := I v0 3) rfl (i_nI (n := jlen Z b0) (by omega)))).mp c
    exact same (by omega)
  · have c2 := (i_le (show (1048576 : Int32).toInt = 1048576 from rfl) (y := I v0 3) rfl).mp c2
    omega
  have hc : (I v0 3).toInt = (jlen Z b0 : Int) := (i_eq rfl (i_nI (by omega))).mp c
  have hc2 := (not_congr (i_le (show (1048576 : Int32).toInt = 1048576 from rfl) rfl)).mp c2
  intro b h; cases e0.symm.trans h
  have t2 : ((I v0 3) * (2 : Int32)).toInt = (I v0 3).toInt * 2 := i_mul rfl (show (2 : Int32).toInt = 2 from rfl) (by omega) (by omega)
  have tn := i_nat t2 (by omega)
  have hcap : 2 * jlen Z b0 ≤ capN Z v0 := by
    rcases p2 with h | h
    · rw [h.1]
      have := pw_2 r2 (by omega)
      unfold pw at this
      omega
    · have := pw_17 r2 (by omega)
      rcases capN_cases Z v0 with h' | h' <;> omega
  have hpot : (capN Z v0 - jlen Z b0) / 64 ≤ potc Z := by
    have h := sum_one (l := Z.1) (f := fun a => if Z.2.1 a = 7 then (capN Z a - klen Z a) / 64 else 0) (g := fun x => if x = v0 then 0 else (if Z.2.1 x = 7 then (capN Z x - klen Z x) / 64 else 0)) (a := v0) w_I.2.1.1 kv0.1 (fun x _ hne => by simp [hne])
    have ka : klen Z v0 = jlen Z b0 := by unfold klen; rw [e0]
    simp only [if_true, kv0.2, ka] at h
    unfold potc
    omega
  have p64 := pw_64 r2
  have pc : capN Z v0 % 64 = 0 := by rcases capN_cases Z v0 with h | h <;> rw [h]
  obtain ⟨bd1, bd2⟩ := id bd
  unfold f_J7_copyOf_c38d5
  refine ⟨fun _ => ⟨⟨(not_congr (i_lt t2 z0)).mpr (by omega), by omega, by omega, by omega⟩, ?_⟩, fun c => ?_⟩
  · intro q hq Z4 eZ I5 eI L6 eL
    have hb4 : jlen Z4 b0 = jlen Z b0 := by rw [eZ]; exact (jext_nw hq b0 15 k0).2
    have hq4 : jlen Z4 q = ((I v0 3) * (2 : Int32)).toNatClampNeg := by rw [eZ]; exact jlen_nw
    have cond : ¬ ((I v0 3) * (2 : Int32)) < nI (jlen Z4 b0) := (not_congr (i_lt t2 (i_nI (by omega)))).mpr (by rw [hb4]; omega)
    rw [if_neg cond]
    have tq := i_nat (x := nI (jlen Z4 b0)) (i_nI (by omega)) (by omega)
    have t00 := i_nat (x := (0 : Int32)) z0 (by omega)
    refine ⟨⟨by decide, by decide, (not_congr (i_lt (i_nI (by omega)) z0)).mpr (by omega), by omega, by rw [hq4]; omega⟩, fun L9 e9 => ?_⟩
    dsimp only
    refine ⟨fun h => (by cases h), fun b h Z27 e27 => ?_⟩
    cases h
    obtain ⟨w1, w2, w3, w4⟩ := WD_grow (n := ((I v0 3) * (2 : Int32)).toNatClampNeg) w_I bd kv0 hq e0 (by omega) (by omega) (by omega)
    rw [← eZ, ← e27] at w1 w2 w3 w4
    rw [← eI] at w1 w3
    have Io : ∀ x, x ≠ q → I5 x = I x := fun x hx => by rw [eI]; exact va_up_ne _ _ hx
    have Lo : ∀ x, x ≠ q → L9 x = L x := fun x hx => by rw [e9, va_up_ne _ _ hx, eL]; exact va_up_ne _ _ hx
    have nq : ∀ x c, jk Z x c → x ≠ q := fun x c hk e => hq (e ▸ hk.1)
    have Lq : ∀ j, j < jlen Z b0 → L9 q j = L b0 j := fun j hj => by
      rw [e9, va_up_self]
      have zz : (0 : Int32).toNatClampNeg = 0 := by omega
      rw [zz]
      unfold va_cpy
      rw [if_pos (by omega), eL, show jzL L q b0 = L b0 from va_up_ne _ _ (nq b0 15 k0)]
      congr 1
      omega
    have hr : ∀ j, j ≠ 0 → jr Z27 v0 j = jr Z v0 j := fun j hj => w3.2.1 v0 7 j kv0 (by omega) (by omega)
    have h0 : jr Z27 v0 0 = some q := by rw [e27]; exact jrR_at
    have e3 : I5 v0 3 = I v0 3 := by rw [Io v0 (nq v0 7 kv0)]
    have c1 : I5 b1 = I b1 := Io b1 (nq b1 14 k1)
    have c2 : I5 b2 = I b2 := Io b2 (nq b2 14 k2)
    have lq27 : jlen Z27 q = ((I v0 3) * (2 : Int32)).toNatClampNeg := by rw [e27]; exact hq4
    refine half Z27 I5 L9 q w1 w2 w3 w4 (w3.1 v0 7 kv0).1 e3 (fun x hk hn => by rw [Io x (nq x 7 hk)]) (RCs_re hcc hr h0) (fun p' hp' => ?_) ⟨hS.1, by rw [Io v0 (nq v0 7 kv0)]; exact hS.2.1, by rw [Io v0 (nq v0 7 kv0)]; exact hS.2.2.1, fun i hi => ?_⟩ ⟨by rw [c1, e3]; exact hcu.1, by rw [c1]; exact hcu.2⟩ (by rw [lq27]; omega) (Or.inr hq) (fun x hx _ => Lo x (fun e => hq (e ▸ hx)))
    · rw [c1, c2]
      refine ⟨(hR p' hp').1, fun i x hx => ?_⟩
      have g4q := r4 p' hp'
      have hs := (hR p' hp').1
      have hil : i < (R p').length := by
        refine Nat.lt_of_not_le (fun q2 => ?_)
        rw [List.getElem?_eq_none q2] at hx
        cases hx
      have g5q := g4q.2 (by omega)
      have qb := i_nat (x := I b1 p') rfl g5q.1
      rw [Lq _ (by omega)]
      exact (hR p' hp').2 i x hx
    · obtain ⟨p1, p2', p3, p4, p5⟩ := hS.2.2.2 i hi
      rw [Io b4 (nq b4 14 k4), Io b5 (nq b5 14 k5), e3, Lo b7 (nq b7 15 kk7), Lo b6 (nq b6 15 kk6)]
      refine ⟨p1, p2', p3, p4, fun k' x hx => ?_⟩
      have hil : k' < (S i).length := by
        refine Nat.lt_of_not_le (fun q2 => ?_)
        rw [List.getElem?_eq_none q2] at hx
        cases hx
      have qb := i_nat (x := I b4 i) rfl p1
      rw [Lq _ (by omega)]
      exact p5 k' x hx
  · have := (i_eq t2 (i_nI (by omega))).mp c
    omega
/-! ===== Rows: keepCheapest, begin, keyAt ===== -/
theorem jext_mem {Z Z' : jZ} {x : Nat} (h : jext Z Z') (hx : x ∈ Z.1) : x ∈ Z'.1 := (h x _ ⟨hx, rfl⟩).1.1
theorem up_twice {R : Nat → List Int} {p : Nat} {X Y : List Int} : (fun q => if q = p then (fun q => if q = p then X else R q) p ++ Y else (fun q => if q = p then X else R q) q) = (fun q => if q = p then X ++ Y else R q) := by
  funext q
  by_cases h : q = p
  · rw [if_pos h, if_pos h]
    show (if p = p then X else R p) ++ Y = _
    rw [if_pos rfl]
  · rw [if_neg h, if_neg h]
    show (if q = p then X else R q) = _
    rw [if_neg h]
set_option maxHeartbeats 4000000 in
theorem c_keep_L9 {B : Nat × Nat} {T : Nat} {Z : jZ} {I : jI} {L : jL} (w_I : WD Z I) (v0 : Nat) (kv0 : jk Z v0 7) (b0 b1 b2 b4 b5 b6 b7 : Nat) (p : Nat) (hp : p < 25) (v1 v3 : Int32) (e1v : v1.toInt = (p : Int)) (P : Int) (e3v : v3.toInt = P) (R : Nat → List Int) (m : Nat) (X : List Int) {Q : jZ → jI → jL → Prop}
    (hQ : ∀ (Z' : jZ) (I' : jI) (L' : jL) (c0 : Nat), WD Z' I' → BUD B Z' T → FR W7 Z I Z' I' → CP Z Z' → RO v0 Z I I' → (I' v0 3).toInt = (I v0 3).toInt + (X.length : Int) → RCs Z' v0 c0 b1 b2 b4 b5 b6 b7 → RRb I' L' c0 b1 b2 (fun q => if q = p then X else R q) → CUr I' v0 b1 (fun q => if q = p then X else R q) p → (c0 = b0 ∨ c0 ∉ Z.1) → (∀ x, x ∈ Z.1 → x ≠ b0 → x ≠ b7 → L' x = L x) → Q Z' I' L') :
    ∀ (n f : Nat) (v4 v5 : Int32) (lim : Int) (Z1 : jZ) (I1 : jI) (L1 : jL) (c0 : Nat) (acc : List Int) (S : Nat → List Int), f + 1 ≤ n → v5.toInt = (f : Int) → f = cnS S m → v4.toInt = lim → acc ++ kc P (m - 1) f S lim = X → WD Z1 I1 → BUD B Z1 T → FR W7 Z I Z1 I1 → CP Z Z1 → RO v0 Z I I1 → (I1 v0 3).toInt = (I v0 3).toInt + (acc.length : Int) → (I1 v0 3).toInt + lim ≤ 98304 → RCs Z1 v0 c0 b1 b2 b4 b5 b6 b7 → RRb I1 L1 c0 b1 b2 (fun q => if q = p then acc else R q) → MGb I1 L1 v0 c0 b4 b5 b6 b7 S m → CUr I1 v0 b1 (fun q => if q = p then acc else R q) p → (c0 = b0 ∨ c0 ∉ Z.1) → (∀ x, x ∈ Z.1 → x ≠ b0 → x ≠ b7 → L1 x = L x) → (∀ i, srt (S i)) → (∀ i x, x ∈ S i → 0 ≤ x ∧ x < BIG) → f_X7_keepCheapest_L9 B Q n v0 v1 v3 v4 v5 Z1 I1 L1 := by
  have z0 : (0 : Int32).toInt = 0 := rfl
  have z1 : (1 : Int32).toInt = 1 := rfl
  have zm : (-1 : Int32).toInt = -1 := by decide
  intro n
  induction n with
  | zero => intro f v4 v5 lim Z1 I1 L1 c0 acc S hf; omega
  | succ n ih =>
    intro f v4 v5 lim Z1 I1 L1 c0 acc S hf e5 ef e4 eX w b fr cp ro h3 hb hc hR hS hcu hc0 hL hs hB
    have kv1 : jk Z1 v0 7 := (fr.1 v0 7 kv0).1
    have fin : acc = X → Q Z1 I1 L1 := fun e => by
      subst e
      exact hQ Z1 I1 L1 c0 w b fr cp ro h3 hc hR hcu hc0 hL
    unfold f_X7_keepCheapest_L9
    refine ⟨fun c => fin ?_, fun c => ⟨fun c2 => fin ?_, fun c2 => ?_⟩⟩
    · have c := (i_le e5 z0).mp c
      have e : f = 0 := by omega
      rw [e] at eX
      rw [← eX]
      exact (List.append_nil acc).symm
    · have c2 := (i_lt e4 z0).mp c2
      rw [← eX]
      cases f with
      | zero => exact (List.append_nil acc).symm
      | succ f =>
        have e : kc P (m - 1) (f + 1) S lim = [] := if_pos c2
        rw [e]
        exact (List.append_nil acc).symm
    have c := (not_congr (i_le e5 z0)).mp c
    have c2 := (not_congr (i_lt e4 z0)).mp c2
    obtain ⟨f', rfl⟩ : ∃ f', f = f' + 1 := ⟨f - 1, by omega⟩
    have hm : 1 ≤ m := by
      cases m with
      | zero => exact absurd ef (Nat.succ_ne_zero f')
      | succ m => omega
    have hcn : cnS S m ≠ 0 := by omega
    have hB' : ∀ i x, x ∈ S i → x < BIG := fun i x hx => (hB i x hx).2
    obtain ⟨hwl, hwm⟩ := wh_some hs hB' hm hcn
    obtain ⟨q06, q07, q67, -⟩ := RC_ne w kv1 hc
    have tk := fun (Q' : Int64 → jI → jL → Prop) => r_X7_take (Q := Q') w v0 kv1 c0 b1 b2 b4 b5 b6 b7 hc S m hS hm hcn hs hB'
    have e : kc P (m - 1) (f' + 1) S lim = if P < cK (hdB (S (wh (fun i => hdB (S i)) (m - 1)))) then [] else if eK (hdB (S (wh (fun i => hdB (S i)) (m - 1)))) ≤ lim then hdB (S (wh (fun i => hdB (S i)) (m - 1))) :: kc P (m - 1) f' (tkS S (wh (fun i => hdB (S i)) (m - 1))) (eK (hdB (S (wh (fun i => hdB (S i)) (m - 1)))) - 1) else kc P (m - 1) f' (tkS S (wh (fun i => hdB (S i)) (m - 1))) lim := if_neg c2
    generalize wh (fun i => hdB (S i)) (m - 1) = wi at hwl hwm tk e
    refine tk _ (fun r I6 L7 w6 f6 fi6 ro6 a3 a1 a2 er hS6 lo6 => ?_)
    have hk := hB _ _ (hd_mem hwl)
    have hcn2 := (cnS_tk hwl m).2 hwm
    have rk := eK_rng (hdB (S wi))
    generalize hdB (S wi) = key at er hk rk e
    have f16 := FR.trans w_I.1 w_I.2.1 fr f6
    have ro16 : RO v0 Z I I6 := RO.trans fr.1 ro ro6
    have hR6 : RRb I6 L7 c0 b1 b2 (fun q => if q = p then acc else R q) := fun q hq => by
      rw [a1, a2, lo6 c0 q07]
      exact hR q hq
    have hcu6 : CUr I6 v0 b1 (fun q => if q = p then acc else R q) p := by
      unfold CUr
      rw [a1, a3]
      exact hcu
    have hL6 : ∀ x, x ∈ Z.1 → x ≠ b0 → x ≠ b7 → L7 x = L x := fun x hx h1 h2 => (lo6 x h2).trans (hL x hx h1 h2)
    have fin6 : acc = X → Q Z1 I6 L7 := fun e => by
      subst e
      exact hQ Z1 I6 L7 c0 w6 b f16 cp ro16 (by rw [a3]; exact h3) hc hR6 hcu6 hc0 hL6
    have hs' : ∀ i, srt (tkS S wi i) := tk_srt hs
    have hB6 : ∀ i x, x ∈ tkS S wi i → 0 ≤ x ∧ x < BIG := fun i x hx => hB i x (tk_mem hx)
    have r5 := i_rng v5
    have nx : ∀ x : Int32, x = v5 + (-1) → x.toInt = (f' : Int) := fun x ex => by
      rw [ex]
      exact (i_add e5 zm (by omega) (by omega)).trans (by omega)
    refine c_costIn er hk.1 (fun r17 e17 => ⟨fun c3 => ?_, fun c3 => fin6 ?_⟩)
    · have c3 := (i_le e17 e3v).mp c3
      rw [if_neg (by omega)] at e
      refine c_effortIn er hk.1 (fun r25 e25 => ⟨fun c4 => ?_, fun c4 => ?_⟩)
      · have c4 := (i_lt e4 e25).mp c4
        rw [if_neg (by omega)] at e
        rw [e] at eX
        unfold f_X7_keepCheapest_b61
        intro x ex
        exact ih f' v4 x lim Z1 I6 L7 c0 acc (tkS S wi) (by omega) (nx x ex) (by omega) e4 eX w6 b f16 cp ro16 (by rw [a3]; exact h3) (by rw [a3]; exact hb) hc hR6 hS6 hcu6 hc0 hL6 hs' hB6
      · have c4 := (not_congr (i_lt e4 e25)).mp c4
        rw [if_pos (by omega)] at e
        rw [e] at eX
        refine r_X7_push w6 b v0 v1 r kv1 c0 b1 b2 b4 b5 b6 b7 hc p e1v hp (Or.inr (by rw [a3]; omega)) key er _ hR6 _ m hS6 hcu6 (fun Z28 I29 L30 c9 w9 b9 f9 cp9 ro9 h9 hc9 hR9 hS9 hcu9 hc09 hl9 => ?_)
        rw [up_twice] at hR9 hcu9
        rw [a3] at h9
        have hl : ((acc ++ [key]).length : Int) = (acc.length : Int) + 1 := by
          rw [List.length_append]
          rfl
        refine c_effortIn er hk.1 (fun r40 e40 => ?_)
        intro x41 e41
        have t41 : x41.toInt = eK key - 1 := by
          rw [e41]
          exact i_sub e40 z1 (by omega) (by omega)
        unfold f_X7_keepCheapest_b61
        intro x ex
        refine ih f' x41 x _ Z28 I29 L30 c9 (acc ++ [key]) (tkS S wi) (by omega) (nx x ex) (by omega) t41 (by rw [List.append_assoc]; exact eX) w9 b9 (FR.trans w_I.1 w_I.2.1 f16 f9) (CP.trans fr.1 cp cp9) (RO.trans fr.1 ro16 ro9) (by omega) (by omega) hc9 hR9 hS9 hcu9 ?_ ?_ hs' hB6
        · rcases hc09 with q | q
          · rw [q]; exact hc0
          · exact Or.inr (fun q2 => q (jext_mem fr.1 q2))
        · intro x hx h1 h2
          refine (hl9 x (jext_mem fr.1 hx) (fun q => ?_)).trans (hL6 x hx h1 h2)
          rcases hc0 with q2 | q2
          · exact h1 (q.trans q2)
          · exact q2 (q ▸ hx)
    · have c3 := (not_congr (i_le e17 e3v)).mp c3
      rw [if_pos (by omega)] at e
      rw [e] at eX
      rw [← eX]
      exact (List.append_nil acc).symm
theorem r_X7_keepCheapest {B : Nat × Nat} {T : Nat} {Z : jZ} {I : jI} {L : jL} (w_I : WD Z I) (bd : BUD B Z T) (v0 : Nat) (v1 v2 v3 : Int32) (kv0 : jk Z v0 7) (b0 b1 b2 b4 b5 b6 b7 : Nat) (hc : RCs Z v0 b0 b1 b2 b4 b5 b6 b7) (p : Nat) (hp : p < 25) (e1v : v1.toInt = (p : Int)) (lim : Int) (e2v : v2.toInt = lim) (P : Int) (e3v : v3.toInt = P) (R : Nat → List Int) (hR : RRb I L b0 b1 b2 (fun q => if q = p then [] else R q)) (S : Nat → List Int) (m : Nat) (hS : MGb I L v0 b0 b4 b5 b6 b7 S m) (hcu : CUr I v0 b1 (fun q => if q = p then [] else R q) p) (hl : (I v0 3).toInt + lim ≤ 98304) (hs : ∀ i, srt (S i)) (hB : ∀ i x, x ∈ S i → 0 ≤ x ∧ x < BIG) {Q : jZ → jI → jL → Prop}
    (hQ : ∀ (Z' : jZ) (I' : jI) (L' : jL) (c0 : Nat), WD Z' I' → BUD B Z' T → FR W7 Z I Z' I' → CP Z Z' → RO v0 Z I I' → (I' v0 3).toInt = (I v0 3).toInt + ((kc P (m - 1) (cnS S m) S lim).length : Int) → RCs Z' v0 c0 b1 b2 b4 b5 b6 b7 → RRb I' L' c0 b1 b2 (fun q => if q = p then kc P (m - 1) (cnS S m) S lim else R q) → CUr I' v0 b1 (fun q => if q = p then kc P (m - 1) (cnS S m) S lim else R q) p → (c0 = b0 ∨ c0 ∉ Z.1) → (∀ x, x ∈ Z.1 → x ≠ b0 → x ≠ b7 → L' x = L x) → Q Z' I' L') : f_X7_keepCheapest B v0 v1 v2 v3 Z I L Q := by
  unfold f_X7_keepCheapest
  intro x ex
  have e9 : x.toInt = ((cnS S m : Nat) : Int) := by rw [ex]; exact hS.2.2.1
  exact ⟨cnS S m + 1, c_keep_L9 w_I v0 kv0 b0 b1 b2 b4 b5 b6 b7 p hp v1 v3 e1v P e3v R m _ hQ (cnS S m + 1) (cnS S m) v2 x lim Z I L b0 [] S (Nat.le_refl _) e9 rfl e2v rfl w_I bd FR.rf CP.rf RO.rf (Int.add_zero _).symm hl hc hR hS hcu (Or.inl rfl) (fun _ _ _ _ => rfl) hs hB⟩
theorem r_X7_keyAt {Z : jZ} {I : jI} {L : jL} (w_I : WD Z I) (v0 : Nat) (v1 v2 : Int32) (kv0 : jk Z v0 7) (b0 b1 b2 b4 b5 b6 b7 : Nat) (hc : RCs Z v0 b0 b1 b2 b4 b5 b6 b7) (p i : Nat) (hp : p < 25) (e1v : v1.toInt = (p : Int)) (e2v : v2.toInt = (i : Int)) (R : Nat → List Int) (hR : RRb I L b0 b1 b2 R) (key : Int) (hk : (R p)[i]? = some key) {Q : Int64 → jI → jL → Prop} (hQ : ∀ r : Int64, r.toInt = key → Q r I L) : f_X7_keyAt v0 v1 v2 Z I L Q := by
  have z0 : (0 : Int32).toInt = 0 := rfl
  have hcc := hc
  obtain ⟨g0, g1, g2, g4, g5, g6, g7⟩ := hc
  obtain ⟨c0, c1, c2, c4, c5, e0, e1, e2, e4, e5, k0, k1, k2, k4, k5, n1, n2, n4, n5, n12, n14, n15, n24, n25, n45, r1, r2, r3, r4, r5, r6⟩ := rows_at w_I kv0
  cases g0.symm.trans e0; cases g1.symm.trans e1; cases g2.symm.trans e2
  have qn : v1.toNatClampNeg = p := by have := i_nat e1v (by omega); omega
  have hil : i < (R p).length := by
    refine Nat.lt_of_not_le (fun q2 => ?_)
    rw [List.getElem?_eq_none q2] at hk
    cases hk
  have hsz := (hR p hp).1
  have r4p := r4 p hp
  have r4q := r4p.2 (by omega)
  unfold f_X7_keyAt
  refine ⟨fun c => absurd ((i_lt e2v z0).mp c) (by omega), fun _ => ?_⟩
  refine r_X7_sizeAt v0 v1 b0 b1 b2 b4 b5 b6 b7 hcc p e1v hp R hR (fun r er => ⟨fun c => absurd ((i_le er e2v).mp c) (by omega), fun _ => ?_⟩)
  intro b h; cases e0.symm.trans h
  intro b h; cases e1.symm.trans h
  rw [qn]
  have t := i_add (x := I b1 p) (y := v2) rfl e2v (by omega) (by omega)
  refine ⟨vi_of e1v (by omega) (by omega), vi_of t (by omega) (by omega), hQ _ ?_⟩
  have a := i_nat (x := I b1 p) rfl r4q.1
  have b := i_nat t (by omega)
  rw [show (I b1 p + v2).toNatClampNeg = (I b1 p).toNatClampNeg + i by omega]
  exact (hR p hp).2 i key hk
set_option maxHeartbeats 2000000 in
theorem r_X7_begin {B : Nat × Nat} {T : Nat} {Z : jZ} {I : jI} {L : jL} (w_I : WD Z I) (bd : BUD B Z T) (v0 : Nat) (v1 : Int32) (v2 : Int64) (kv0 : jk Z v0 7) (b0 b1 b2 b4 b5 b6 b7 : Nat) (hc : RCs Z v0 b0 b1 b2 b4 b5 b6 b7) (p : Nat) (hp : p < 25) (e1v : v1.toInt = (p : Int)) (key : Int) (ek : v2.toInt = key) {Q : jZ → jI → jL → Prop}
    (hQ : ∀ (Z' : jZ) (I' : jI) (L' : jL) (c0 : Nat), WD Z' I' → BUD B Z' T → FR W7 Z I Z' I' → CP Z Z' → RO v0 Z I I' → (I' v0 3).toInt = 1 → RCs Z' v0 c0 b1 b2 b4 b5 b6 b7 → RRb I' L' c0 b1 b2 (fun q => if q = p then [key] else []) → (c0 = b0 ∨ c0 ∉ Z.1) → (∀ x, x ∈ Z.1 → x ≠ b0 → L' x = L x) → Q Z' I' L') : f_X7_begin B v0 v1 v2 Z I L Q := by
  have hcc := hc
  obtain ⟨g0, g1, g2, g4, g5, g6, g7⟩ := hc
  obtain ⟨c0, c1, c2, c4, c5, e0, e1, e2, e4, e5, k0, k1, k2, k4, k5, n1, n2, n4, n5, n12, n14, n15, n24, n25, n45, r1, r2, r3, r4, r5, r6⟩ := rows_at w_I kv0
  cases g0.symm.trans e0; cases g1.symm.trans e1; cases g2.symm.trans e2; cases g4.symm.trans e4; cases g5.symm.trans e5
  have z0 : (0 : Int32).toInt = 0 := rfl
  have l2 : jlen Z b2 = 25 := by obtain ⟨b, e, -, l⟩ := sh_f w_I.1 kv0 (j := 2) (k := 14) (m := 25) rfl; cases e2.symm.trans e; exact l
  unfold f_X7_begin
  intro b h; cases e2.symm.trans h
  refine fill_raw (by omega) (fun I4 h1 h2 I8 q8 => ?_)
  have a3 : I8 v0 3 = 0 := by rw [q8, jpI_at]
  have ao : ∀ j, j ≠ 3 → I8 v0 j = I v0 j := fun j hj => by rw [q8, jpI_off hj, h1 v0 n2]
  have bo : ∀ x, x ≠ v0 → x ≠ b2 → I8 x = I x := fun x x0 x2 => by rw [q8, jpI_ne x0, h1 x x2]
  have d2 : ∀ p, p < 25 → I8 b2 p = 0 := fun p hp => by rw [q8, jpI_ne n2.symm, h2 p (by omega)]
  obtain ⟨w1, f1, o1⟩ := WD_rows (I' := I8) w_I kv0 e0 e1 e2 e4 e5 (fun x x0 x1 x2 x4 x5 => bo x x0 x2) (fun j j3 j8 j9 => ao j j3) (by
    unfold RI1
    rw [a3, ao 8 (by decide), ao 9 (by decide), bo b1 n1.symm n12, bo b4 n4.symm n24.symm, z0]
    refine ⟨by omega, r2, r3, fun p hp => ?_, r5, r6⟩
    rw [d2 p hp, z0]
    omega)
  have hR0 : RRb I8 L b0 b1 b2 (fun _ => []) := fun q hq => by
    rw [d2 q hq]
    exact ⟨rfl, fun i x hx => by cases hx⟩
  refine r_X7_start w1 v0 v1 kv0 b0 b1 b2 b4 b5 b6 b7 hcc p e1v hp _ hR0 (fun I11 w2 f2 p2 o2 a32 hR2 hS2 hcu2 => ?_)
  refine r_X7_push w2 bd v0 v1 v2 kv0 b0 b1 b2 b4 b5 b6 b7 hcc p e1v hp (Or.inr (by rw [a32, a3, z0]; omega)) key ek _ hR2 _ 0 hS2 hcu2 (fun Z' I' L' c9 w9 b9 f9 cp9 ro9 h9 hc9 hR9 hS9 hcu9 hc09 hl9 => ?_)
  have e9 := up_twice (R := fun _ => ([] : List Int)) (p := p) (X := []) (Y := [key])
  have hR10 : RRb I' L' c9 b1 b2 (fun q => if q = p then ([] : List Int) ++ [key] else (fun _ => []) q) := by
    rw [← e9]
    exact hR9
  exact hQ Z' I' L' c9 w9 b9 (FR.trans w_I.1 w_I.2.1 f1 (FR.trans w_I.1 w_I.2.1 f2 f9)) cp9 (RO.trans jext_rfl o1 (RO.trans jext_rfl o2 ro9)) (by rw [h9, a32, a3, z0]; rfl) hc9 hR10 hc09 hl9
/-! ===== Routes: feed, raise, cheapest ===== -/
theorem l_andm (r : Int64) : r &&& (-1 : Int64) = r := by
  apply Int64.toBitVec_inj.mp
  rw [Int64.toBitVec_and, show (-1 : Int64).toBitVec = BitVec.allOnes 64 by decide, BitVec.and_allOnes]
theorem srt_map {l : List Int} {mv : Int} (h : srt l) : srt (l.map (fun x => x + mv)) := by
  unfold srt at h ⊢
  exact List.pairwise_map.mpr (h.imp (fun {a b} q => by omega))
/-- a pilgrim's moves as laid -/
def MVs (Z : jZ) (I : jI) (a u4 u5 u6 u7 lp n : Nat) (op : Nat → Prop) (C E : Nat → Nat → Int) (lu : Nat → Int) : Prop := (jr Z a 4 = some u4 ∧ jr Z a 5 = some u5 ∧ jr Z a 6 = some u6 ∧ jr Z a 7 = some u7) ∧ (I a 3).toInt = (lp : Int) ∧ (I a 15).toInt = (n : Int) ∧ (∀ p, p ≤ n → (I u6 p ≠ 0 ↔ op p)) ∧ (∀ p far, alw lp op p far → p ≤ n → (I u4 (3 * p + far - 1)).toInt = C p far ∧ (I u5 (3 * p + far - 1)).toInt = E p far) ∧ (∀ p, p ≤ n → (I u7 p).toInt = lu p)
theorem MVs_fr {Z Z' : jZ} {I I' : jI} {a u4 u5 u6 u7 lp n : Nat} {op : Nat → Prop} {C E : Nat → Nat → Int} {lu : Nat → Int} (w : WD Z I) (ka : jk Z a 6) (f : FR W7 Z I Z' I') (h : MVs Z I a u4 u5 u6 u7 lp n op C E lu) : MVs Z' I' a u4 u5 u6 u7 lp n op C E lu := by
  obtain ⟨⟨h4, h5, h6, h7⟩, h3, h15, ho, hm, hu⟩ := h
  have i4 : I' u4 = I u4 := by
    obtain ⟨b, e, k, -⟩ := sh_f w.1 ka (j := 4) (k := 14) (m := 75) rfl
    cases h4.symm.trans e
    exact f.2.2.2 a 6 4 u4 ka h4 (by rw [k.2]; rfl) rfl (by decide)
  have i5 : I' u5 = I u5 := by
    obtain ⟨b, e, k, -⟩ := sh_f w.1 ka (j := 5) (k := 14) (m := 75) rfl
    cases h5.symm.trans e
    exact f.2.2.2 a 6 5 u5 ka h5 (by rw [k.2]; rfl) rfl (by decide)
  have i6 : I' u6 = I u6 := by
    obtain ⟨b, e, k, -⟩ := sh_f w.1 ka (j := 6) (k := 16) (m := 25) rfl
    cases h6.symm.trans e
    exact f.2.2.2 a 6 6 u6 ka h6 (by rw [k.2]; rfl) rfl (by decide)
  have i7 : I' u7 = I u7 := by
    obtain ⟨b, e, k, -⟩ := sh_f w.1 ka (j := 7) (k := 14) (m := 25) rfl
    cases h7.symm.trans e
    exact f.2.2.2 a 6 7 u7 ka h7 (by rw [k.2]; rfl) rfl (by decide)
  refine ⟨⟨(f.2.1 a 6 4 ka (by decide) (by decide)).trans h4, (f.2.1 a 6 5 ka (by decide) (by decide)).trans h5, (f.2.1 a 6 6 ka (by decide) (by decide)).trans h6, (f.2.1 a 6 7 ka (by decide) (by decide)).trans h7⟩, ?_, ?_, ?_, ?_, ?_⟩
  · rw [f.2.2.1 a 6 3 ka (by decide) (by decide)]; exact h3
  · rw [f.2.2.1 a 6 15 ka (by decide) (by decide)]; exact h15
  · rw [i6]; exact ho
  · rw [i4, i5]; exact hm
  · rw [i7]; exact hu
/-- the rows merged so far -/
def SRf (lp : Nat) (op : Nat → Prop) (C E : Nat → Nat → Int) (R : Nat → List Int) (p far m : Nat) (S : Nat → List Int) : Prop := (∀ i, m ≤ i → S i = []) ∧ (∀ i x, x ∈ S i → ∃ f, alw lp op p f ∧ ∃ y, y ∈ R (p - f) ∧ x = y + mvK C E p f) ∧ (∀ f y, f < far → alw lp op p f → y ∈ R (p - f) → ∃ i, i < m ∧ y + mvK C E p f ∈ S i) ∧ (∀ i, srt (S i)) ∧ (∀ i x, x ∈ S i → 0 ≤ x ∧ x < BIG)
theorem SRf_0 {lp : Nat} {op : Nat → Prop} {C E : Nat → Nat → Int} {R : Nat → List Int} {p : Nat} : SRf lp op C E R p 1 0 (fun _ => []) := ⟨fun _ _ => rfl, fun _ _ h => absurd h List.not_mem_nil, fun f y h ha _ => by have := ha.1; omega, fun _ => List.Pairwise.nil, fun _ _ h => absurd h List.not_mem_nil⟩
theorem SRf_nil {lp : Nat} {op : Nat → Prop} {C E : Nat → Nat → Int} {R : Nat → List Int} {p far m : Nat} {S : Nat → List Int} (h : SRf lp op C E R p far m S) (e : R (p - far) = []) : SRf lp op C E R p (far + 1) m S := by
  refine ⟨h.1, h.2.1, fun f y hf ha hy => ?_, h.2.2.2⟩
  by_cases c : f = far
  · rw [c, e] at hy
    exact absurd hy List.not_mem_nil
  · exact h.2.2.1 f y (by omega) ha hy
theorem SRf_add {lp : Nat} {op : Nat → Prop} {C E : Nat → Nat → Int} {R : Nat → List Int} {p far m : Nat} {S : Nat → List Int} (h : SRf lp op C E R p far m S) (ha : alw lp op p far) (hs : srt (R (p - far))) (hx : ∀ y, y ∈ R (p - far) → 0 ≤ y + mvK C E p far ∧ y + mvK C E p far < BIG) : SRf lp op C E R p (far + 1) (m + 1) (fun i => if i = m then (R (p - far)).map (fun x => x + mvK C E p far) else S i) := by
  have at_ : ∀ i, i = m → (fun i => if i = m then (R (p - far)).map (fun x => x + mvK C E p far) else S i) i = (R (p - far)).map (fun x => x + mvK C E p far) := fun i e => if_pos e
  have off : ∀ i, i ≠ m → (fun i => if i = m then (R (p - far)).map (fun x => x + mvK C E p far) else S i) i = S i := fun i e => if_neg e
  generalize (fun i => if i = m then (R (p - far)).map (fun x => x + mvK C E p far) else S i) = S' at at_ off
  obtain ⟨h1, h2, h3, h4, h5⟩ := h
  refine ⟨fun i hi => ?_, fun i x hi => ?_, fun f y hf hal hy => ?_, fun i => ?_, fun i x hi => ?_⟩
  · rw [off i (by omega)]
    exact h1 i (by omega)
  · by_cases c : i = m
    · rw [at_ i c] at hi
      obtain ⟨y, hy, ey⟩ := List.mem_map.mp hi
      exact ⟨far, ha, y, hy, ey.symm⟩
    · rw [off i c] at hi
      exact h2 i x hi
  · by_cases c : f = far
    · refine ⟨m, by omega, ?_⟩
      rw [at_ m rfl]
      rw [c] at hy ⊢
      exact List.mem_map.mpr ⟨y, hy, rfl⟩
    · obtain ⟨i, hi, hm⟩ := h3 f y (by omega) hal hy
      refine ⟨i, by omega, ?_⟩
      rw [off i (by omega)]
      exact hm
  · by_cases c : i = m
    · rw [at_ i c]
      exact srt_map hs
    · rw [off i c]
      exact h4 i
  · by_cases c : i = m
    · rw [at_ i c] at hi
      obtain ⟨y, hy, ey⟩ := List.mem_map.mp hi
      rw [← ey]
      exact hx y hy
    · rw [off i c] at hi
      exact h5 i x hi
set_option maxHeartbeats 4000000 in
theorem c_feed_L8 {Z : jZ} {I : jI} {L : jL} (w_I : WD Z I) (v0 v1 : Nat) (v2 : Int32) (kv0 : jk Z v0 6) (kv1 : jk Z v1 7) (b0 b1 b2 b4 b5 b6 b7 : Nat) (hc : RCs Z v1 b0 b1 b2 b4 b5 b6 b7) (u4 u5 u6 u7 lp n : Nat) (op : Nat → Prop) (C E : Nat → Nat → Int) (lu : Nat → Int) (hM : MVs Z I v0 u4 u5 u6 u7 lp n op C E lu) (hlp : lp ≤ 3) (hn : n ≤ 24) (hC : ∀ p f, 0 ≤ C p f ∧ C p f ≤ 297) (hE : ∀ p f, 0 ≤ E p f ∧ E p f ≤ 600) (p : Nat) (hp : 1 ≤ p) (hpn : p ≤ n) (e2v : v2.toInt = (p : Int)) (R : Nat → List Int) (hsR : ∀ q, q < p → srt (R q)) (hxR : ∀ f y, alw lp op p f → y ∈ R (p - f) → 0 ≤ y + mvK C E p f ∧ y + mvK C E p f < BIG) {Q : jI → jL → Prop}
    (hQ : ∀ (I' : jI) (L' : jL) (S : Nat → List Int) (m : Nat), WD Z I' → FR W7 Z I Z I' → RO v1 Z I I' → I' v1 3 = I v1 3 → RRb I' L' b0 b1 b2 R → MGb I' L' v1 b0 b4 b5 b6 b7 S m → CUr I' v1 b1 R p → SRC lp op C E R p S (m - 1) → cnS S (m - 1 + 1) = cnS S m → (∀ i, srt (S i)) → (∀ i x, x ∈ S i → 0 ≤ x ∧ x < BIG) → (∀ x, x ≠ b6 → x ≠ b7 → L' x = L x) → Q I' L') :
    ∀ (k far m : Nat) (v6 : Int32) (I1 : jI) (L1 : jL) (S : Nat → List Int), 1 ≤ far → far ≤ 4 → 5 ≤ k + far → v6.toInt = (far : Int) → m + 1 ≤ far → SRf lp op C E R p far m S → WD Z I1 → FR W7 Z I Z I1 → RO v1 Z I I1 → I1 v1 3 = I v1 3 → RRb I1 L1 b0 b1 b2 R → MGb I1 L1 v1 b0 b4 b5 b6 b7 S m → CUr I1 v1 b1 R p → (∀ x, x ≠ b6 → x ≠ b7 → L1 x = L x) → f_X6_feed_L8 Z Q k v0 v1 v2 (-1 : Int64) (-1 : Int32) v6 I1 L1 := by
  have z0 : (0 : Int32).toInt = 0 := rfl
  have z1 : (1 : Int32).toInt = 1 := rfl
  have zm : (-1 : Int32).toInt = -1 := by decide
  intro k
  induction k with
  | zero => intro far m v6 I1 L1 S h1 h4 hk; omega
  | succ k ih =>
    intro far m v6 I1 L1 S h1 h4 hk e6v hm hS w fr ro a3 hR hMG hcu hL
    have hM1 := MVs_fr w_I kv0 fr hM
    obtain ⟨⟨g4, g5, g6, g7⟩, m3, m15, mo, mm, mu⟩ := hM1
    have done : (∀ f, alw lp op p f → f < far) → Q I1 L1 := fun hd => by
      obtain ⟨s1, s2, s3, s4, s5⟩ := hS
      refine hQ I1 L1 S m w fr ro a3 hR hMG hcu ⟨fun i x _ hx => s2 i x hx, fun f y ha hy => ?_⟩ ?_ s4 s5 hL
      · obtain ⟨i, hi, hm'⟩ := s3 f y (hd f ha) ha hy
        exact ⟨i, by omega, hm'⟩
      · cases m with
        | zero =>
          show 0 + (S 0).length = 0
          rw [s1 0 (Nat.le_refl _)]
          rfl
        | succ m => rfl
    unfold f_X6_feed_L8
    refine ⟨fun c => done (fun f ha => ?_), fun c => ⟨fun c2 => done (fun f ha => ?_), fun c2 => ?_⟩⟩
    · have c := (i_lt m3 e6v).mp c
      have := ha.2.1
      omega
    · have c2 := (i_lt e2v e6v).mp c2
      have := ha.2.2.1
      omega
    have c := (not_congr (i_lt m3 e6v)).mp c
    have c2 := (not_congr (i_lt e2v e6v)).mp c2
    have qn : v2.toNatClampNeg = p := by have := i_nat e2v (by omega); omega
    intro b h; cases g6.symm.trans h
    rw [qn]
    refine ⟨vi_of e2v (by omega) (by omega), fun c3 => done (fun f ha => absurd c3 ((mo p hpn).mpr ha.2.2.2)), fun c3 => ?_⟩
    have ho : op p := (mo p hpn).mp c3
    have ha : alw lp op p far := ⟨h1, by omega, by omega, ho⟩
    have tf := i_sub e2v e6v (by omega) (by omega)
    have t5 := i_add zm z1 (by omega) (by omega)
    refine ⟨fun _ => ?_, fun c4 => absurd ((i_le t5 tf).mpr (by omega)) c4⟩
    unfold f_X6_feed_b55 f_X6_feed_b56
    refine ⟨fun c5 => absurd rfl c5, fun _ => ?_⟩
    obtain ⟨mc, me⟩ := mm p far ha hpn
    have nx : ∀ x : Int32, x = v6 + 1 → x.toInt = ((far + 1 : Nat) : Int) := fun x ex => by
      rw [ex]
      exact (i_add e6v z1 (by omega) (by omega)).trans (by omega)
    refine c_keyOf v0 v2 v6 u4 u5 g4 g5 p far e2v e6v ⟨hp, by omega⟩ ⟨h1, by omega⟩ mc me (hC p far) (hE p far) (fun r er => ?_)
    rw [l_andm]
    refine r_X7_merge w v1 (v2 - v6) r kv1 b0 b1 b2 b4 b5 b6 b7 hc (p - far) (tf.trans (by omega)) (by omega) R hR S m hMG (by omega) _ er (fun x hx => hxR far x ha hx) (fun e => ?_) (fun I' L' w' f' fi' ro' a3' a1' hne hR' hMG' lo' => ?_)
    · unfold f_X6_feed_b80
      intro x ex
      exact ih (far + 1) m x I1 L1 S (by omega) (by omega) (by omega) (nx x ex) (by omega) (SRf_nil hS e) w fr ro a3 hR hMG hcu hL
    · unfold f_X6_feed_b80
      intro x ex
      refine ih (far + 1) (m + 1) x I' L' _ (by omega) (by omega) (by omega) (nx x ex) (by omega) (SRf_add hS ha (hsR _ (by omega)) (fun y hy => hxR far y ha hy)) w' (FR.trans w_I.1 w_I.2.1 fr f') (RO.trans jext_rfl ro ro') (a3'.trans a3) hR' hMG' ?_ (fun x h6 h7 => (lo' x h6 h7).trans (hL x h6 h7))
      unfold CUr
      rw [a1', a3']
      exact hcu
theorem r_X6_feed {Z : jZ} {I : jI} {L : jL} (w_I : WD Z I) (v0 v1 : Nat) (v2 : Int32) (kv0 : jk Z v0 6) (kv1 : jk Z v1 7) (b0 b1 b2 b4 b5 b6 b7 : Nat) (hc : RCs Z v1 b0 b1 b2 b4 b5 b6 b7) (u4 u5 u6 u7 lp n : Nat) (op : Nat → Prop) (C E : Nat → Nat → Int) (lu : Nat → Int) (hM : MVs Z I v0 u4 u5 u6 u7 lp n op C E lu) (hlp : lp ≤ 3) (hn : n ≤ 24) (hC : ∀ p f, 0 ≤ C p f ∧ C p f ≤ 297) (hE : ∀ p f, 0 ≤ E p f ∧ E p f ≤ 600) (p : Nat) (hp : 1 ≤ p) (hpn : p ≤ n) (e2v : v2.toInt = (p : Int)) (R : Nat → List Int) (hR : RRb I L b0 b1 b2 R) (hsR : ∀ q, q < p → srt (R q)) (hxR : ∀ f y, alw lp op p f → y ∈ R (p - f) → 0 ≤ y + mvK C E p f ∧ y + mvK C E p f < BIG) {Q : jI → jL → Prop}
    (hQ : ∀ (I' : jI) (L' : jL) (S : Nat → List Int) (m : Nat), WD Z I' → FR W7 Z I Z I' → RO v1 Z I I' → I' v1 3 = I v1 3 → RRb I' L' b0 b1 b2 (fun q => if q = p then [] else R q) → MGb I' L' v1 b0 b4 b5 b6 b7 S m → CUr I' v1 b1 (fun q => if q = p then [] else R q) p → SRC lp op C E (fun q => if q = p then [] else R q) p S (m - 1) → cnS S (m - 1 + 1) = cnS S m → (∀ i, srt (S i)) → (∀ i x, x ∈ S i → 0 ≤ x ∧ x < BIG) → (∀ x, x ≠ b6 → x ≠ b7 → L' x = L x) → Q I' L') : f_X6_feed v0 v1 v2 (-1 : Int64) (-1 : Int32) Z I L Q := by
  unfold f_X6_feed
  have lo : ∀ q, q < p → (fun q => if q = p then ([] : List Int) else R q) q = R q := fun q hq => if_neg (by omega)
  refine r_X7_start w_I v1 v2 kv1 b0 b1 b2 b4 b5 b6 b7 hc p e2v (by omega) R hR (fun I2 w2 f2 p2 o2 a3 hR2 hS2 hcu2 => ?_)
  refine ⟨5, c_feed_L8 w_I v0 v1 v2 kv0 kv1 b0 b1 b2 b4 b5 b6 b7 hc u4 u5 u6 u7 lp n op C E lu hM hlp hn hC hE p hp hpn e2v _ (fun q hq => ?_) (fun f y ha hy => ?_) hQ 5 1 0 1 I2 L (fun _ => []) (Nat.le_refl _) (by omega) (by omega) rfl (Nat.le_refl _) SRf_0 w2 f2 o2 a3 hR2 hS2 hcu2 (fun _ _ _ => rfl)⟩
  · show srt ((fun q => if q = p then ([] : List Int) else R q) q)
    rw [lo q hq]
    exact hsR q hq
  · have hy : y ∈ (fun q => if q = p then ([] : List Int) else R q) (p - f) := hy
    have h1 := ha.1
    have h2 := ha.2.2.1
    rw [lo _ (by omega)] at hy
    exact hxR f y ha hy
theorem kc_len {P : Int} {j : Nat} : ∀ (f : Nat) (S : Nat → List Int) (lim : Int), (kc P j f S lim).length ≤ (lim + 1).toNat := by
  intro f
  induction f with
  | zero => intro S lim; exact Nat.zero_le _
  | succ f ih =>
    intro S lim
    have er := eK_rng (hdB (S (wh (fun i => hdB (S i)) j)))
    show (if lim < 0 then [] else if P < cK (hdB (S (wh (fun i => hdB (S i)) j))) then [] else if eK (hdB (S (wh (fun i => hdB (S i)) j))) ≤ lim then hdB (S (wh (fun i => hdB (S i)) j)) :: kc P j f (tkS S (wh (fun i => hdB (S i)) j)) (eK (hdB (S (wh (fun i => hdB (S i)) j))) - 1) else kc P j f (tkS S (wh (fun i => hdB (S i)) j)) lim).length ≤ _
    by_cases c1 : lim < 0
    · rw [if_pos c1]; exact Nat.zero_le _
    rw [if_neg c1]
    by_cases c2 : P < cK (hdB (S (wh (fun i => hdB (S i)) j)))
    · rw [if_pos c2]; exact Nat.zero_le _
    rw [if_neg c2]
    by_cases c3 : eK (hdB (S (wh (fun i => hdB (S i)) j))) ≤ lim
    · rw [if_pos c3, List.length_cons]
      have := ih (tkS S (wh (fun i => hdB (S i)) j)) (eK (hdB (S (wh (fun i => hdB (S i)) j))) - 1)
      omega
    · rw [if_neg c3]
      exact ih _ _
/-- a row of a place that is ready -/
def ROW (lp : Nat) (op : Nat → Prop) (C E : Nat → Nat → Int) (P K : Int) (lu : Nat → Int) (q : Nat) (l : List Int) : Prop := RWs lp op C E P (K - lu q) q l ∧ l.Pairwise (fun a b => a < b ∧ eK b < eK a)
theorem ROW_srt {lp : Nat} {op : Nat → Prop} {C E : Nat → Nat → Int} {P K : Int} {lu : Nat → Int} {q : Nat} {l : List Int} (h : ROW lp op C E P K lu q l) : srt l := h.2.imp (fun {a b} q => by omega)
theorem ROW_rng {lp : Nat} {op : Nat → Prop} {C E : Nat → Nat → Int} {P K : Int} {lu : Nat → Int} {p far : Nat} {l : List Int} (hp : p ≤ 24) (h1 : 1 ≤ far) (h2 : far ≤ p) (hC : ∀ p f, 0 ≤ C p f ∧ C p f ≤ 297) (hE : ∀ p f, 0 ≤ E p f ∧ E p f ≤ 600) (hK : K ≤ 999) (h0 : ∀ q, 0 ≤ lu q) (h : ROW lp op C E P K lu (p - far) l) : ∀ y, y ∈ l → 0 ≤ y + mvK C E p far ∧ y + mvK C E p far < BIG := by
  intro y hy
  obtain ⟨m, c, e, b, hx, ek, he, hc⟩ := h.1.1 y hy
  have r := PX_rng (by omega) hC hE hx
  have hb := PX_bits _ _ _ _ _ _ (by omega) hx
  have l := btP_less hp far h1 h2
  have bp := btP_pos p
  have b0 : btP 0 = 16777216 := rfl
  have c9 := hC p far
  have e9 := hE p far
  have u0 := h0 (p - far)
  rw [ek]
  unfold kf mvK BIG
  omega
set_option maxHeartbeats 4000000 in
theorem r_X6_raiseOne {B : Nat × Nat} {T : Nat} {Z : jZ} {I : jI} {L : jL} (w_I : WD Z I) (bd : BUD B Z T) (v0 : Nat) (v1 : Int32) (kv0 : jk Z v0 6) (u9 : Nat) (h9 : jr Z v0 9 = some u9) (b0 b1 b2 b4 b5 b6 b7 : Nat) (hc : RCs Z u9 b0 b1 b2 b4 b5 b6 b7) (u4 u5 u6 u7 lp n : Nat) (op : Nat → Prop) (C E : Nat → Nat → Int) (lu : Nat → Int) (hM : MVs Z I v0 u4 u5 u6 u7 lp n op C E lu) (hlp : lp ≤ 3) (hn : n ≤ 24) (hC : ∀ p f, 0 ≤ C p f ∧ C p f ≤ 297) (hE : ∀ p f, 0 ≤ E p f ∧ E p f ≤ 600) (h0 : op 0) (hu : LUs lp n op E lu) (hu9 : ∀ q, lu q ≤ 2000000) (K P : Int) (eK' : (I v0 1).toInt = K) (eP : (I v0 2).toInt = P) (hK : 0 ≤ K ∧ K ≤ 999) (hP : 0 ≤ P ∧ P ≤ 999) (p : Nat) (hp : 1 ≤ p) (hpn : p ≤ n) (e1v : v1.toInt = (p : Int)) (R : Nat → List Int) (hR : RRb I L b0 b1 b2 R) (hW : ∀ q, q < p → ROW lp op C E P K lu q (R q)) (hfl : (I u9 3).toInt ≤ 90000) {Q : jZ → jI → jL → Prop}
    (hQ : ∀ (Z' : jZ) (I' : jI) (L' : jL) (c0 : Nat) (X : List Int), WD Z' I' → BUD B Z' T → FR W7 Z I Z' I' → CP Z Z' → RO u9 Z I I' → (I' u9 3).toInt ≤ (I u9 3).toInt + 1000 → RCs Z' u9 c0 b1 b2 b4 b5 b6 b7 → RRb I' L' c0 b1 b2 (fun q => if q = p then X else R q) → ROW lp op C E P K lu p X → (c0 = b0 ∨ c0 ∉ Z.1) → (∀ x, x ∈ Z.1 → x ≠ b0 → x ≠ b6 → x ≠ b7 → L' x = L x) → Q Z' I' L') : f_X6_raiseOne B v0 v1 Z I L Q := by
  have z0 : (0 : Int32).toInt = 0 := rfl
  have ku9 : jk Z u9 7 := by obtain ⟨b9, e9, k9⟩ := sh_o w_I.1 kv0 (j := 9) (k := 7) rfl; cases h9.symm.trans e9; exact k9
  have hMM := hM
  obtain ⟨⟨g4, g5, g6, g7⟩, m3, m15, mo, mm, mu⟩ := hM
  unfold f_X6_raiseOne
  refine ⟨fun c => absurd ((i_le e1v z0).mp c) (by omega), fun _ => ⟨fun c => absurd ((i_lt m15 e1v).mp c) (by omega), fun _ => ?_⟩⟩
  intro b h; cases h9.symm.trans h
  refine r_X6_feed w_I v0 u9 v1 kv0 ku9 b0 b1 b2 b4 b5 b6 b7 hc u4 u5 u6 u7 lp n op C E lu hMM hlp hn hC hE p hp hpn e1v R hR (fun q hq => ROW_srt (hW q hq)) (fun f y ha hy => ROW_rng (by omega) ha.1 ha.2.2.1 hC hE hK.2 hu.2.2 (hW (p - f) (by have := ha.1; omega)) y hy) (fun I6 L7 S m w6 f6 ro6 a3 hR6 hMG6 hcu6 hsr hcn hs hB hL6 => ?_)
  intro b h; cases h9.symm.trans h
  intro b h; cases g7.symm.trans h
  have qn : v1.toNatClampNeg = p := by have := i_nat e1v (by omega); omega
  have e7 : (I6 u7 p).toInt = lu p := (MVs_fr w_I kv0 f6 hMM).2.2.2.2.2 p hpn
  rw [qn]
  refine ⟨vi_of e1v (by omega) (by omega), ?_⟩
  have ek : (I6 v0 1).toInt = K := by rw [f6.2.2.1 v0 6 1 kv0 (by decide) (by decide)]; exact eK'
  have ep : (I6 v0 2).toInt = P := by rw [f6.2.2.1 v0 6 2 kv0 (by decide) (by decide)]; exact eP
  have u0 := hu.2.2 p
  have u1 := hu9 p
  have tl := i_sub ek e7 (by omega) (by omega)
  refine r_X7_keepCheapest w6 bd u9 v1 _ _ ku9 b0 b1 b2 b4 b5 b6 b7 hc p (by omega) e1v (K - lu p) tl P ep R hR6 S m hMG6 hcu6 (by rw [a3]; omega) hs hB (fun Z' I' L' c0 w' bd' f' cp' ro' a3' hc' hR' hcu' hc0 hL' => ?_)
  have hlen := kc_len (P := P) (j := m - 1) (cnS S m) S (K - lu p)
  have hrow : ROW lp op C E P K lu p (kc P (m - 1) (cnS S m) S (K - lu p)) := by
    have hlow : ∀ q, q < p → RWs lp op C E P (K - lu q) q ((fun q => if q = p then ([] : List Int) else R q) q) := fun q hq => by
      show RWs lp op C E P (K - lu q) q (if q = p then ([] : List Int) else R q)
      rw [if_neg (by omega)]
      exact (hW q hq).1
    have g := RW_step h0 hC hE hu hK.2 hP.2 hpn hn (by omega) hlow hsr hs (fun i x hx => (hB i x hx).2)
    rw [hcn] at g
    have g2 := kc_srt (P := P) (j := m - 1) (cnS S m) S (K - lu p) (by omega) hs (fun i x hx => (hB i x hx).2)
    exact ⟨g, g2⟩
  exact hQ Z' I' L' c0 _ w' bd' (FR.trans w_I.1 w_I.2.1 f6 f') cp' (RO.trans jext_rfl ro6 ro') (by rw [a3'] ; rw [a3]; omega) hc' hR' hrow hc0 (fun x hx h0' h6 h7 => (hL' x hx h0' h7).trans (hL6 x h6 h7))
/-! ===== Routes: all rows; the cheapest climb ===== -/
theorem rcs_at {Z : jZ} {I : jI} {a : Nat} (w : WD Z I) (ha : jk Z a 7) : ∃ b0 b1 b2 b4 b5 b6 b7, RCs Z a b0 b1 b2 b4 b5 b6 b7 := by
  obtain ⟨b0, e0, -⟩ := sh_o w.1 ha (j := 0) (k := 15) rfl
  obtain ⟨b1, e1, -⟩ := sh_f w.1 ha (j := 1) (k := 14) (m := 25) rfl
  obtain ⟨b2, e2, -⟩ := sh_f w.1 ha (j := 2) (k := 14) (m := 25) rfl
  obtain ⟨b4, e4, -⟩ := sh_f w.1 ha (j := 4) (k := 14) (m := 3) rfl
  obtain ⟨b5, e5, -⟩ := sh_f w.1 ha (j := 5) (k := 14) (m := 3) rfl
  obtain ⟨b6, e6, -⟩ := sh_f w.1 ha (j := 6) (k := 15) (m := 3) rfl
  obtain ⟨b7, e7, -⟩ := sh_f w.1 ha (j := 7) (k := 15) (m := 3) rfl
  exact ⟨b0, b1, b2, b4, b5, b6, b7, e0, e1, e2, e4, e5, e6, e7⟩
set_option maxHeartbeats 4000000 in
theorem c_raiseTo_L2 {B : Nat × Nat} {T : Nat} {Z : jZ} {I : jI} {L : jL} (w_I : WD Z I) (v0 : Nat) (v1 : Int32) (kv0 : jk Z v0 6) (u9 : Nat) (h9 : jr Z v0 9 = some u9) (b0 b1 b2 b4 b5 b6 b7 : Nat) (u4 u5 u6 u7 lp n : Nat) (op : Nat → Prop) (C E : Nat → Nat → Int) (lu : Nat → Int) (hM : MVs Z I v0 u4 u5 u6 u7 lp n op C E lu) (hlp : lp ≤ 3) (hn : n ≤ 24) (hC : ∀ p f, 0 ≤ C p f ∧ C p f ≤ 297) (hE : ∀ p f, 0 ≤ E p f ∧ E p f ≤ 600) (h0 : op 0) (hu : LUs lp n op E lu) (hu9 : ∀ q, lu q ≤ 2000000) (K P : Int) (eK' : (I v0 1).toInt = K) (eP : (I v0 2).toInt = P) (hK : 0 ≤ K ∧ K ≤ 999) (hP : 0 ≤ P ∧ P ≤ 999) (last : Nat) (e1v : v1.toInt = (last : Int)) (hln : last ≤ n) {Q : jZ → jI → jL → Prop}
    (hQ : ∀ (Z' : jZ) (I' : jI) (L' : jL) (c0 : Nat) (R : Nat → List Int), WD Z' I' → BUD B Z' T → FR W7 Z I Z' I' → CP Z Z' → RO u9 Z I I' → RCs Z' u9 c0 b1 b2 b4 b5 b6 b7 → RRb I' L' c0 b1 b2 R → (∀ q, q ≤ last → ROW lp op C E P K lu q (R q)) → (c0 = b0 ∨ c0 ∉ Z.1) → (∀ x, x ∈ Z.1 → x ≠ b0 → x ≠ b6 → x ≠ b7 → L' x = L x) → Q Z' I' L') :
    ∀ (k p : Nat) (v2 : Int32) (Z1 : jZ) (I1 : jI) (L1 : jL) (c0 : Nat) (R : Nat → List Int), last + 2 ≤ k + p → 1 ≤ p → p ≤ last + 1 → v2.toInt = (p : Int) → WD Z1 I1 → BUD B Z1 T → FR W7 Z I Z1 I1 → CP Z Z1 → RO u9 Z I I1 → (I1 u9 3).toInt ≤ 1000 * (p : Int) → RCs Z1 u9 c0 b1 b2 b4 b5 b6 b7 → RRb I1 L1 c0 b1 b2 R → (∀ q, q < p → ROW lp op C E P K lu q (R q)) → (c0 = b0 ∨ c0 ∉ Z.1) → (∀ x, x ∈ Z.1 → x ≠ b0 → x ≠ b6 → x ≠ b7 → L1 x = L x) → f_X6_raiseTo_L2 B Q k v0 v1 v2 Z1 I1 L1 := by
  intro k
  induction k with
  | zero => intro p v2 Z1 I1 L1 c0 R hk h1 h2; omega
  | succ k ih =>
    intro p v2 Z1 I1 L1 c0 R hk h1 h2 e2v w bd fr cp ro a3 hc hR hW hc0 hL
    have kv1 : jk Z1 v0 6 := (fr.1 v0 6 kv0).1
    have hM1 := MVs_fr w_I kv0 fr hM
    unfold f_X6_raiseTo_L2
    refine ⟨fun c => ?_, fun c => ⟨fun c2 => ?_, fun _ => ?_⟩⟩
    · have c := (i_lt e1v e2v).mp c
      exact hQ Z1 I1 L1 c0 R w bd fr cp ro hc hR (fun q hq => hW q (by omega)) hc0 hL
    · have c2 := (i_lt hM1.2.2.1 e2v).mp c2
      have c := (not_congr (i_lt e1v e2v)).mp c
      omega
    have c := (not_congr (i_lt e1v e2v)).mp c
    refine r_X6_raiseOne w bd v0 v2 kv1 u9 ((fr.2.1 v0 6 9 kv0 (by decide) (by decide)).trans h9) c0 b1 b2 b4 b5 b6 b7 hc u4 u5 u6 u7 lp n op C E lu hM1 hlp hn hC hE h0 hu hu9 K P (by rw [fr.2.2.1 v0 6 1 kv0 (by decide) (by decide)]; exact eK') (by rw [fr.2.2.1 v0 6 2 kv0 (by decide) (by decide)]; exact eP) hK hP p h1 (by omega) e2v R hR hW (by omega) (fun Z' I' L' c9 X w' bd' f' cp' ro' a3' hc' hR' hX hc0' hL' => ?_)
    intro x ex
    have ex : x = v2 + 1 := ex
    refine ih (p + 1) x Z' I' L' c9 _ (by omega) (by omega) (by omega) (by rw [ex]; exact (i_add e2v (show (1 : Int32).toInt = 1 from rfl) (by omega) (by omega)).trans (by omega)) w' bd' (FR.trans w_I.1 w_I.2.1 fr f') (CP.trans fr.1 cp cp') (RO.trans fr.1 ro ro') (by omega) hc' hR' (fun q hq => ?_) ?_ (fun y hy y0 y6 y7 => ?_)
    · show ROW lp op C E P K lu q (if q = p then X else R q)
      by_cases h : q = p
      · rw [if_pos h, h]
        exact hX
      · rw [if_neg h]
        exact hW q (by omega)
    · rcases hc0' with q | q
      · rw [q]; exact hc0
      · exact Or.inr (fun q2 => q (jext_mem fr.1 q2))
    · refine (hL' y (jext_mem fr.1 hy) (fun q => ?_) y6 y7).trans (hL y hy y0 y6 y7)
      rcases hc0 with q2 | q2
      · exact y0 (q.trans q2)
      · exact q2 (q ▸ hy)
/-- what the class answers of its cheapest climb -/
def CLM (lp n : Nat) (op : Nat → Prop) (C E : Nat → Nat → Int) (K P : Int) (r : Int64) : Prop := (r = (9223372036854775807 : Int64) ∧ ∀ m c e b, ¬ FEA lp n op C E K P m c e b) ∨ ∃ m c e b, LST lp n op C E K P m c e b ∧ r.toInt = kf m c e b
set_option maxHeartbeats 4000000 in
theorem r_X6_cheapest_f {B : Nat × Nat} {T : Nat} {Z : jZ} {I : jI} {L : jL} (w_I : WD Z I) (bd : BUD B Z T) (v0 : Nat) (kv0 : jk Z v0 6) (u4 u5 u6 u7 lp n : Nat) (op : Nat → Prop) (C E : Nat → Nat → Int) (lu : Nat → Int) (hM : MVs Z I v0 u4 u5 u6 u7 lp n op C E lu) (hlp : lp ≤ 3) (hn : n ≤ 24) (hC : ∀ p f, 0 ≤ C p f ∧ C p f ≤ 297) (hE : ∀ p f, 0 ≤ E p f ∧ E p f ≤ 600) (h0 : op 0) (hu : LUs lp n op E lu) (hu9 : ∀ q, lu q ≤ 2000000) (K P : Int) (eK' : (I v0 1).toInt = K) (eP : (I v0 2).toInt = P) (hK : 0 ≤ K ∧ K ≤ 999) (hP : 0 ≤ P ∧ P ≤ 999) {Q : Int64 → jZ → jI → jL → Prop}
    (hQ : ∀ (r : Int64) (Z' : jZ) (I' : jI) (L' : jL), WD Z' I' → BUD B Z' T → FR W7 Z I Z' I' → CP Z Z' → CLM lp n op C E K P r → Q r Z' I' L') : f_X6_cheapest B v0 Z I L Q := by
  have z0 : (0 : Int32).toInt = 0 := rfl
  obtain ⟨u9, h9, ku9⟩ := sh_o w_I.1 kv0 (j := 9) (k := 7) rfl
  obtain ⟨b0, b1, b2, b4, b5, b6, b7, hc⟩ := rcs_at w_I ku9
  have hMM := hM
  obtain ⟨⟨g4, g5, g6, g7⟩, m3, m15, mo, mm, mu⟩ := hM
  have q0 : (0 : Int32).toNatClampNeg = 0 := rfl
  have l0 : (I u7 0).toInt = lu 0 := mu 0 (by omega)
  unfold f_X6_cheapest
  intro b h; cases g7.symm.trans h
  rw [q0]
  refine ⟨fun c => ?_, fun c => ?_⟩
  · have c := (i_le l0 eK').mp c
    intro b h; cases h9.symm.trans h
    refine r_X7_begin w_I bd u9 (0 : Int32) (16777215 : Int64) ku9 b0 b1 b2 b4 b5 b6 b7 hc 0 (by omega) rfl 16777215 rfl (fun Z5 I6 L7 c0 w5 bd5 f5 cp5 ro5 a35 hc5 hR5 hc05 hL5 => ?_)
    have k5 : jk Z5 v0 6 := (f5.1 v0 6 kv0).1
    have hM5 := MVs_fr w_I kv0 f5 hMM
    have h95 := (f5.2.1 v0 6 9 kv0 (by decide) (by decide)).trans h9
    unfold f_X6_raiseTo
    refine ⟨n + 1, c_raiseTo_L2 w5 v0 (I6 v0 15) k5 u9 h95 c0 b1 b2 b4 b5 b6 b7 u4 u5 u6 u7 lp n op C E lu hM5 hlp hn hC hE h0 hu hu9 K P (by rw [f5.2.2.1 v0 6 1 kv0 (by decide) (by decide)]; exact eK') (by rw [f5.2.2.1 v0 6 2 kv0 (by decide) (by decide)]; exact eP) hK hP n hM5.2.2.1 (Nat.le_refl _) (fun Z9 I9 L9 c9 R w9 bd9 f9 cp9 ro9 hc9 hR9 hW9 hc09 hL9 => ?_) (n + 1) 1 (1 : Int32) Z5 I6 L7 c0 _ (by omega) (Nat.le_refl _) (by omega) rfl w5 bd5 FR.rf CP.rf RO.rf (by omega) hc5 hR5 (fun q hq => ?_) (Or.inl rfl) (fun _ _ _ _ _ => rfl)⟩
    · have f59 := FR.trans w_I.1 w_I.2.1 f5 f9
      have hM9 := MVs_fr w5 k5 f9 hM5
      have h99 := (f9.2.1 v0 6 9 k5 (by decide) (by decide)).trans h95
      have k9 : jk Z9 u9 7 := (f59.1 u9 7 ku9).1
      have top := RW_top hK.1 h0 hu (hW9 n (Nat.le_refl _)).1 (hW9 n (Nat.le_refl _)).2
      intro b h; cases h99.symm.trans h
      refine r_X7_sizeAt u9 (I9 v0 15) c9 b1 b2 b4 b5 b6 b7 hc9 n hM9.2.2.1 (by omega) R hR9 (fun r er => ⟨fun c2 => ?_, fun c2 => ?_⟩)
      · have c2 := (i_le er z0).mp c2
        exact hQ _ Z9 I9 L9 w9 bd9 f59 (CP.trans f5.1 cp5 cp9) (Or.inl ⟨rfl, top.1 (List.eq_nil_of_length_eq_zero (by omega))⟩)
      · have c2 := (not_congr (i_le er z0)).mp c2
        intro b h; cases h99.symm.trans h
        obtain ⟨key, t, eR⟩ : ∃ key t, R n = key :: t := by
          cases hl : R n with
          | nil => rw [hl] at c2; exact absurd (Int.le_refl _) c2
          | cons key t => exact ⟨key, t, rfl⟩
        refine r_X7_keyAt w9 u9 (I9 v0 15) (0 : Int32) k9 c9 b1 b2 b4 b5 b6 b7 hc9 n 0 (by omega) hM9.2.2.1 rfl R hR9 key (by rw [eR]; rfl) (fun r34 e34 => ?_)
        obtain ⟨m, cc, e, bb, hl, ek⟩ := top.2 key t eR
        exact hQ r34 Z9 I9 L9 w9 bd9 f59 (CP.trans f5.1 cp5 cp9) (Or.inr ⟨m, cc, e, bb, hl, by rw [e34, ek]⟩)
    · have q0 : q = 0 := by omega
      rw [q0]
      show ROW lp op C E P K lu 0 (if 0 = 0 then [16777215] else [])
      rw [if_pos rfl]
      exact ⟨RW_0 hP.1, List.pairwise_singleton _ _⟩
  · have c := (not_congr (i_le l0 eK')).mp c
    refine hQ _ Z I L w_I bd FR.rf CP.rf (Or.inl ⟨rfl, fun m cc e b hf => ?_⟩)
    have := lu_low hu m 0 cc e b h0 hf.1
    have := hf.2.1
    omega
