def MRc (cc : Nat → Nat → Int) (n : Int) (Z : jZ) (I0 : jI) (v0 : Nat) (sz : Int) (I : jI) (a F : Int) : Prop := (WD Z I ∧ CM cc Z I v0 n) ∧ FR Ws_X12_readLine Z I0 Z I ∧ (I v0 26).toInt = a ∧ (I v0 27).toInt = F ∧ (I v0 24).toInt = sz ∧ (I v0 25).toInt = 76
theorem MRc_txt {cc : Nat → Nat → Int} {nn : Int} {Z : jZ} {I0 I : jI} {v0 uR : Nat} {sz a F : Int} (t : MT Z I0 v0 uR sz) (s : MRc cc nn Z I0 v0 sz I a F) : I uR = I0 uR := by
  obtain ⟨w0, k0, h18, h23, kR, lR, hz⟩ := t
  exact s.2.1.2.2.2 v0 12 18 uR k0 h18 (by rw [kR.2]; rfl) rfl (by decide)
theorem MRc_put {cc : Nat → Nat → Int} {nn : Int} {Z : jZ} {I0 I : jI} {v0 uR j : Nat} {sz a F : Int} {x : Int32} (t : MT Z I0 v0 uR sz) (s : MRc cc nn Z I0 v0 sz I a F) (hm : (12, j) ∈ Ws_X12_readLine) (ok : okF 12 j x) : (WD Z (jpI I v0 j x) ∧ CM cc Z (jpI I v0 j x) v0 nn) ∧ FR Ws_X12_readLine Z I0 Z (jpI I v0 j x) := by
  obtain ⟨w0, k0, -⟩ := t
  exact ⟨⟨WD_putF s.1.1 12 j k0 (by decide) (by decide) ok, CM_fld w0.1 k0 s.1.2⟩, s.2.1.trans w0.1 w0.2.1 (FR_putF k0 (by decide) hm)⟩
theorem MRc_at {cc : Nat → Nat → Int} {nn : Int} {Z : jZ} {I0 I : jI} {v0 uR : Nat} {sz a F : Int} (t : MT Z I0 v0 uR sz) (s : MRc cc nn Z I0 v0 sz I a F) (h1 : -1000 ≤ a) (h2 : a ≤ 1000) : MRc cc nn Z I0 v0 sz (jpI I v0 26 ((I v0 26) + (1 : Int32))) (a + 1) (F) := by
  obtain ⟨g1, g2⟩ := MRc_put (j := 26) (x := (I v0 26) + (1 : Int32)) t s (by decide) trivial
  refine ⟨g1, g2, ?_, ?_, ?_, ?_⟩
  · rw [jpI_at]; exact i_add s.2.2.1 (show (1 : Int32).toInt = 1 from rfl) (by omega) (by omega)
  · rw [jpI_o (by decide)]; exact s.2.2.2.1
  · rw [jpI_o (by decide)]; exact s.2.2.2.2.1
  · rw [jpI_o (by decide)]; exact s.2.2.2.2.2
theorem mc_here {cc : Nat → Nat → Int} {nn : Int} {Z : jZ} {I0 I : jI} {L : jL} {v0 uR : Nat} {sz a F : Int} {Q : Int32 → jI → jL → Prop} (t : MT Z I0 v0 uR sz) (s : MRc cc nn Z I0 v0 sz I a F) (h0 : 0 ≤ a) (h : ∀ r : Int32, r.toInt = (GS (I0 uR) (min sz 76)) a → Q r I L) : f_X12_here v0 Z I L Q := by
  have e := MRc_txt t s
  obtain ⟨w0, k0, h18, h23, kR, lR, hz⟩ := t
  obtain ⟨w, f, sa, sF, s4, s5⟩ := s
  unfold f_X12_here
  refine ⟨fun c => h _ ?_, fun c => ⟨fun c1 => h _ ?_, fun c1 => ⟨uR, h23, kR, ?_, h _ ?_⟩⟩⟩
  · have := (i_le s4 sa).mp c
    rw [GS_out (by omega)]; rfl
  · have := (i_le s5 sa).mp c1
    rw [GS_out (by omega)]; rfl
  · have := (not_congr (i_le s4 sa)).mp c
    rw [lR]
    exact vi_of sa (by omega) (by omega)
  · have c := (not_congr (i_le s4 sa)).mp c
    have c1 := (not_congr (i_le s5 sa)).mp c1
    rw [e]
    have g := GS_in (f := I0 uR) (lim := min sz 76) (x := I v0 26) (by omega) (by omega)
    rw [sa] at g
    exact g
theorem mc_fine {cc : Nat → Nat → Int} {nn : Int} {Z : jZ} {I0 I : jI} {L : jL} {v0 : Nat} {sz a F : Int} {Q : Int32 → jI → jL → Prop} (s : MRc cc nn Z I0 v0 sz I a F) (h1 : F = -1 → Q 1 I L) (h2 : F ≠ -1 → Q 0 I L) : f_X12_fine v0 Z I L Q := by
  unfold f_X12_fine
  exact ⟨fun c => h2 ((not_congr (i_eq s.2.2.2.1 (show (-1 : Int32).toInt = -1 from rfl))).mp c), fun c => h1 ((i_eq s.2.2.2.1 (show (-1 : Int32).toInt = -1 from rfl)).mp c)⟩
theorem mc_fault {cc : Nat → Nat → Int} {nn : Int} {Z : jZ} {I0 I : jI} {L : jL} {v0 uR : Nat} {sz a F : Int} {y : Int32} {Q : jI → jL → Prop} (t : MT Z I0 v0 uR sz) (s : MRc cc nn Z I0 v0 sz I a F) (hF : F = -1) (h : ∀ I', MRc cc nn Z I0 v0 sz I' (a) (y.toInt) → Q I' L) : f_X12_fault v0 y Z I L Q := by
  unfold f_X12_fault
  refine mc_fine s (fun _ => ⟨fun c => absurd c (by decide), fun _ => ?_⟩) (fun c => absurd hF c)
  intro I9 e9
  rw [e9]
  obtain ⟨g1, g2⟩ := MRc_put (j := 27) (x := y) t s (by decide) trivial
  refine h _ ⟨g1, g2, ?_, ?_, ?_, ?_⟩
  · rw [jpI_o (by decide)]; exact s.2.2.1
  · rw [jpI_at]
  · rw [jpI_o (by decide)]; exact s.2.2.2.2.1
  · rw [jpI_o (by decide)]; exact s.2.2.2.2.2
theorem mc_faultD {cc : Nat → Nat → Int} {nn : Int} {Z : jZ} {I0 I : jI} {L : jL} {v0 : Nat} {sz a F : Int} {y : Int32} {Q : jI → jL → Prop} (s : MRc cc nn Z I0 v0 sz I a F) (hF : F ≠ -1) (h : Q I L) : f_X12_fault v0 y Z I L Q := by
  unfold f_X12_fault
  exact mc_fine s (fun c => absurd c hF) (fun _ => ⟨fun _ => h, fun c => absurd rfl c⟩)
theorem mc_pass {cc : Nat → Nat → Int} {nn : Int} {Z : jZ} {I0 I : jI} {L : jL} {v0 uR : Nat} {sz a F : Int} {c : Int32} {k : Int} {Q : Int32 → jI → jL → Prop} (t : MT Z I0 v0 uR sz) (s : MRc cc nn Z I0 v0 sz I a F) (hF : F = -1) (h0 : 0 ≤ a ∧ a ≤ 100) (hk : c.toInt = k) (h1 : (GS (I0 uR) (min sz 76)) a = k → ∀ I', MRc cc nn Z I0 v0 sz I' (a + 1) (F) → Q 1 I' L) (h2 : (GS (I0 uR) (min sz 76)) a ≠ k → Q 0 I L) : f_X12_passes v0 c Z I L Q := by
  unfold f_X12_passes
  refine mc_fine s (fun _ => ⟨fun c => absurd c (by decide), fun _ => ?_⟩) (fun c => absurd hF c)
  refine mc_here t s h0.1 (fun r hr => ⟨fun e => ?_, fun e => ?_⟩)
  · intro I17 e17
    rw [e17]
    have e := (i_eq rfl hk).mp e
    exact h1 (by omega) _ (MRc_at t s (by omega) (by omega))
  · have e := (not_congr (i_eq rfl hk)).mp e
    exact h2 (by omega)
theorem mc_passD {cc : Nat → Nat → Int} {nn : Int} {Z : jZ} {I0 I : jI} {L : jL} {v0 : Nat} {sz a F : Int} {c : Int32} {Q : Int32 → jI → jL → Prop} (s : MRc cc nn Z I0 v0 sz I a F) (hF : F ≠ -1) (h : Q 0 I L) : f_X12_passes v0 c Z I L Q := by
  unfold f_X12_passes
  exact mc_fine s (fun c => absurd c hF) (fun _ => ⟨fun _ => h, fun c => absurd rfl c⟩)
theorem mc_need {cc : Nat → Nat → Int} {nn : Int} {Z : jZ} {I0 I : jI} {L : jL} {v0 uR : Nat} {sz a F : Int} {c : Int32} {k : Int} {Q : jI → jL → Prop} (t : MT Z I0 v0 uR sz) (s : MRc cc nn Z I0 v0 sz I a F) (hF : F = -1) (h0 : 0 ≤ a ∧ a ≤ 100) (hk : c.toInt = k) (h1 : (GS (I0 uR) (min sz 76)) a = k → ∀ I', MRc cc nn Z I0 v0 sz I' (a + 1) (F) → Q I' L) (h2 : (GS (I0 uR) (min sz 76)) a ≠ k → ∀ I', MRc cc nn Z I0 v0 sz I' (a) (a) → Q I' L) : f_X12_need v0 c Z I L Q := by
  unfold f_X12_need
  refine mc_pass t s hF h0 hk (fun g I' s' => ⟨fun _ => h1 g I' s', fun c => absurd c (by decide)⟩) (fun g => ⟨fun c => absurd rfl c, fun _ => ?_⟩)
  refine mc_fault t s hF (fun I' s' => h2 g I' ?_)
  rw [s.2.2.1] at s'
  exact s'
theorem mc_needD {cc : Nat → Nat → Int} {nn : Int} {Z : jZ} {I0 I : jI} {L : jL} {v0 : Nat} {sz a F : Int} {c : Int32} {Q : jI → jL → Prop} (s : MRc cc nn Z I0 v0 sz I a F) (hF : F ≠ -1) (h : Q I L) : f_X12_need v0 c Z I L Q := by
  unfold f_X12_need
  exact mc_passD s hF ⟨fun c => absurd rfl c, fun _ => mc_faultD s hF h⟩
theorem mc_numberD {cc : Nat → Nat → Int} {nn : Int} {Z : jZ} {I0 I : jI} {L : jL} {v0 : Nat} {sz a F : Int} {v1 v2 v3 : Int32} {Q : Int32 → jI → jL → Prop} (s : MRc cc nn Z I0 v0 sz I a F) (hF : F ≠ -1) (h : Q 0 I L) : f_X12_number v0 v1 v2 v3 Z I L Q := by
  unfold f_X12_number
  exact mc_fine s (fun c => absurd c hF) (fun _ => ⟨fun c => absurd rfl c, fun _ => h⟩)
theorem mc_numE {cc : Nat → Nat → Int} {nn : Int} {Z : jZ} {I0 I : jI} {L : jL} {v0 uR : Nat} {sz a d lo hi : Int} {v2 v3 v4 v5 : Int32} {Q : Int32 → jI → jL → Prop} (t : MT Z I0 v0 uR sz) (s : MRc cc nn Z I0 v0 sz I (a + d) (-1)) (e4 : v4.toInt = a) (e2 : v2.toInt = lo) (e3 : v3.toInt = hi) (h0 : 0 ≤ a ∧ a ≤ 100) (hd : 0 ≤ d ∧ d ≤ 2)
    (h1 : 1 ≤ d → lo ≤ v5.toInt → v5.toInt ≤ hi → Q v5 I L)
    (h2 : ¬ (1 ≤ d ∧ lo ≤ v5.toInt ∧ v5.toInt ≤ hi) → ∀ I' F', F' ≠ -1 → (d = 0 → F' = a) → (1 ≤ d → F' = a + d - 1) → MRc cc nn Z I0 v0 sz I' (a + d) (F') → Q 0 I' L) : f_X12_number_b71 Z Q v0 v2 v3 v4 v5 I L := by
  have bad : ∀ I' F', F' ≠ -1 → MRc cc nn Z I0 v0 sz I' (a + d) (F') → Q 0 I' L → f_X12_number_b111 Z Q v0 v5 I' L := by
    intro I' F' hF s' h
    unfold f_X12_number_b111
    exact mc_fine s' (fun c => absurd c hF) (fun _ => ⟨fun _ => h, fun c => absurd rfl c⟩)
  unfold f_X12_number_b71
  refine ⟨fun c => ?_, fun c => ?_⟩
  · have c := (not_congr (i_eq s.2.2.1 e4)).mp c
    refine s_X12_in s.1.1 v5 v2 v3 (fun r16 p16 => ⟨fun g => ?_, fun g => ?_⟩)
    · have g := (not_congr (i_eq (x := r16) (y := 0) rfl (show (0 : Int32).toInt = 0 from rfl))).mp g
      unfold f_X12_number_b111
      exact mc_fine s (fun _ => ⟨fun c => absurd c (by decide), fun _ => h1 (by omega) (by omega) (by omega)⟩) (fun c => absurd rfl c)
    · have g := (i_eq (x := r16) (y := 0) rfl (show (0 : Int32).toInt = 0 from rfl)).mp g
      refine mc_fault t s rfl (fun I' s' => ?_)
      have e : ((I v0 26) - (1 : Int32)).toInt = a + d - 1 := i_sub s.2.2.1 (show (1 : Int32).toInt = 1 from rfl) (by omega) (by omega)
      rw [e] at s'
      exact bad I' _ (by omega) s' (h2 (by omega) I' _ (by omega) (by omega) (fun _ => rfl) s')
  · have c := (i_eq s.2.2.1 e4).mp c
    refine mc_fault t s rfl (fun I' s' => ?_)
    rw [s.2.2.1] at s'
    exact bad I' _ (by omega) s' (h2 (by omega) I' _ (by omega) (by omega) (by omega) s')
theorem mc_num {cc : Nat → Nat → Int} {nn : Int} {Z : jZ} {I0 : jI} {L : jL} {v0 uR : Nat} {sz a lo hi : Int} {v2 v3 v4 : Int32} {Q : Int32 → jI → jL → Prop} (t : MT Z I0 v0 uR sz) (e4 : v4.toInt = a) (e2 : v2.toInt = lo) (e3 : v3.toInt = hi) (h0 : 0 ≤ a ∧ a ≤ 100)
    (h1 : 1 ≤ nd (GS (I0 uR) (min sz 76)) a ∧ lo ≤ nv (GS (I0 uR) (min sz 76)) a ∧ nv (GS (I0 uR) (min sz 76)) a ≤ hi → ∀ (r : Int32) I', r.toInt = nv (GS (I0 uR) (min sz 76)) a → MRc cc nn Z I0 v0 sz I' (a + nd (GS (I0 uR) (min sz 76)) a) (-1) → Q r I' L)
    (h2 : ¬ (1 ≤ nd (GS (I0 uR) (min sz 76)) a ∧ lo ≤ nv (GS (I0 uR) (min sz 76)) a ∧ nv (GS (I0 uR) (min sz 76)) a ≤ hi) → ∀ I', MRc cc nn Z I0 v0 sz I' (a + nd (GS (I0 uR) (min sz 76)) a) (nbad (GS (I0 uR) (min sz 76)) a) → Q 0 I' L) :
    ∀ (m : Nat) (v5 : Int32) (d : Int) (I : jI), MRc cc nn Z I0 v0 sz I (a + d) (-1) → NI (GS (I0 uR) (min sz 76)) a d v5.toInt (a + d) → 3 - d ≤ (m : Int) → f_X12_number_L18 Z Q m v0 2 v2 v3 v4 v5 I L := by
  have nb := nbad_eq (GS (I0 uR) (min sz 76)) a
  have fin : ∀ (v5 : Int32) (d : Int) (I : jI), MRc cc nn Z I0 v0 sz I (a + d) (-1) → nd (GS (I0 uR) (min sz 76)) a = d → nv (GS (I0 uR) (min sz 76)) a = v5.toInt → f_X12_number_b71 Z Q v0 v2 v3 v4 v5 I L := by
    intro v5 d I s e1 e5
    have nr := nd_rng (GS (I0 uR) (min sz 76)) a
    subst e1
    refine mc_numE t s e4 e2 e3 h0 nr (fun g1 g2 g3 => h1 (by omega) v5 I e5.symm s) (fun g I' F' hF hF0 hF1 s' => h2 (by omega) I' ?_)
    have : F' = nbad (GS (I0 uR) (min sz 76)) a := by omega
    rw [← this]
    exact s'
  intro m
  induction m with
  | zero =>
    intro v5 d I s hN hm
    exfalso
    obtain ⟨-, h | h | h⟩ := hN <;> omega
  | succ m ih =>
    intro v5 d I s hN hm
    have hd : 0 ≤ d ∧ d ≤ 2 := by obtain ⟨-, h | h | h⟩ := hN <;> omega
    have hv : 0 ≤ v5.toInt ∧ v5.toInt ≤ 99 := by obtain ⟨-, h | h | h⟩ := hN <;> omega
    have e42 : (v4 + (2 : Int32)).toInt = a + 2 := i_add e4 (show (2 : Int32).toInt = 2 from rfl) (by omega) (by omega)
    unfold f_X12_number_L18
    refine ⟨fun c => ?_, fun c => ?_⟩
    · have c := (i_le e42 s.2.2.1).mp c
      obtain ⟨g1, g2, g3⟩ := NI_end hN (Or.inl (by omega))
      exact fin v5 d I s g1 g2
    have c := (not_congr (i_le e42 s.2.2.1)).mp c
    refine mc_here t s (by omega) (fun r hr => ?_)
    refine s_X12_in s.1.1 r 48 57 (fun r44 p44 => ⟨fun g => ?_, fun g => ?_⟩)
    · have g := (i_eq (x := r44) (y := 0) rfl (show (0 : Int32).toInt = 0 from rfl)).mp g
      have z1 : (48 : Int32).toInt = 48 := rfl
      have z2 : (57 : Int32).toInt = 57 := rfl
      rw [z1, z2] at p44
      obtain ⟨g1, g2, g3⟩ := NI_end hN (Or.inr (by omega))
      exact fin v5 d I s g1 g2
    · have g := (not_congr (i_eq (x := r44) (y := 0) rfl (show (0 : Int32).toInt = 0 from rfl))).mp g
      have z1 : (48 : Int32).toInt = 48 := rfl
      have z2 : (57 : Int32).toInt = 57 := rfl
      rw [z1, z2] at p44
      refine mc_here t s (by omega) (fun r2 hr2 => ?_)
      intro x53 e53 I54 e54
      rw [e54]
      have d53 : x53.toInt = v5.toInt * 10 + (GS (I0 uR) (min sz 76)) (a + d) - 48 := by
        rw [e53]
        exact (i_sub (i_add (i_mul (show (10 : Int32).toInt = 10 from rfl) (y := v5) rfl (by omega) (by omega)) (y := r2) rfl (by omega) (by omega)) (show (48 : Int32).toInt = 48 from rfl) (by omega) (by omega)).trans (by omega)
      have s1 := MRc_at t s (by omega) (by omega)
      rw [show a + d + 1 = a + (d + 1) by omega] at s1
      exact ih x53 (d + 1) _ s1 (NI_step hN (by omega) (by omega) rfl d53 (by omega)) (by omega)
theorem mc_number {cc : Nat → Nat → Int} {nn : Int} {Z : jZ} {I0 I : jI} {L : jL} {v0 uR : Nat} {sz a F : Int} {lo hi : Int} {v2 v3 : Int32} {Q : Int32 → jI → jL → Prop} (t : MT Z I0 v0 uR sz) (s : MRc cc nn Z I0 v0 sz I a F) (hF : F = -1) (e2 : v2.toInt = lo) (e3 : v3.toInt = hi) (h0 : 0 ≤ a ∧ a ≤ 100)
    (h1 : 1 ≤ nd (GS (I0 uR) (min sz 76)) a ∧ lo ≤ nv (GS (I0 uR) (min sz 76)) a ∧ nv (GS (I0 uR) (min sz 76)) a ≤ hi → ∀ (r : Int32) I', r.toInt = nv (GS (I0 uR) (min sz 76)) a → MRc cc nn Z I0 v0 sz I' (a + nd (GS (I0 uR) (min sz 76)) a) (-1) → Q r I' L)
    (h2 : ¬ (1 ≤ nd (GS (I0 uR) (min sz 76)) a ∧ lo ≤ nv (GS (I0 uR) (min sz 76)) a ∧ nv (GS (I0 uR) (min sz 76)) a ≤ hi) → ∀ I', MRc cc nn Z I0 v0 sz I' (a + nd (GS (I0 uR) (min sz 76)) a) (nbad (GS (I0 uR) (min sz 76)) a) → Q 0 I' L) : f_X12_number v0 2 v2 v3 Z I L Q := by
  subst hF
  unfold f_X12_number
  refine mc_fine s (fun _ => ⟨fun _ => ?_, fun c => absurd c (by decide)⟩) (fun c => absurd rfl c)
  intro x63 e63
  have z : (0 : Int32).toInt = 0 := rfl
  have s0 : MRc cc nn Z I0 v0 sz I (a + 0) (-1) := by rw [show a + 0 = a by omega]; exact s
  exact ⟨3, mc_num t (by rw [e63]; exact s.2.2.1) e2 e3 h0 h1 h2 3 0 0 I s0 (by rw [z, show a + 0 = a by omega]; exact NI_0) (by omega)⟩
theorem mc_family {cc : Nat → Nat → Int} {nn : Int} {Z : jZ} {I0 I : jI} {L : jL} {v0 uR : Nat} {sz a F : Int} {Q : Int32 → jI → jL → Prop} (t : MT Z I0 v0 uR sz) (s : MRc cc nn Z I0 v0 sz I a F) (hF : F = -1) (h0 : 0 ≤ a ∧ a ≤ 100)
    (h1 : 48 ≤ (GS (I0 uR) (min sz 76)) a ∧ (GS (I0 uR) (min sz 76)) a ≤ 55 → ∀ (r : Int32) I', r.toInt = (GS (I0 uR) (min sz 76)) a - 48 → MRc cc nn Z I0 v0 sz I' (a + 1) (-1) → Q r I' L)
    (h2 : ¬ (48 ≤ (GS (I0 uR) (min sz 76)) a ∧ (GS (I0 uR) (min sz 76)) a ≤ 55) → ∀ I' p, MRc cc nn Z I0 v0 sz I' (p) (a) → Q 0 I' L) : f_X12_number v0 1 0 7 Z I L Q := by
  subst hF
  unfold f_X12_number
  refine mc_fine s (fun _ => ⟨fun _ => ?_, fun c => absurd c (by decide)⟩) (fun c => absurd rfl c)
  intro x63 e63
  have e4 : x63.toInt = a := by rw [e63]; exact s.2.2.1
  have e41 : (x63 + (1 : Int32)).toInt = a + 1 := i_add e4 (show (1 : Int32).toInt = 1 from rfl) (by omega) (by omega)
  have z : (0 : Int32).toInt = 0 := rfl
  have s0 : MRc cc nn Z I0 v0 sz I (a + 0) (-1) := by rw [show a + 0 = a by omega]; exact s
  refine ⟨2, ?_⟩
  unfold f_X12_number_L18
  refine ⟨fun c => ?_, fun _ => ?_⟩
  · have c := (i_le e41 s.2.2.1).mp c
    omega
  refine mc_here t s (by omega) (fun r hr => ?_)
  have z1 : (48 : Int32).toInt = 48 := rfl
  have z2 : (57 : Int32).toInt = 57 := rfl
  refine s_X12_in s.1.1 r 48 57 (fun r44 p44 => ⟨fun g => ?_, fun g => ?_⟩)
  · have g := (i_eq (x := r44) (y := 0) rfl (show (0 : Int32).toInt = 0 from rfl)).mp g
    rw [z1, z2] at p44
    refine mc_numE (d := 0) t s0 e4 (show (0 : Int32).toInt = 0 from rfl) (show (7 : Int32).toInt = 7 from rfl) h0 (by omega) (fun q => by omega) (fun _ I' F' hF hF0 _ s' => h2 (by omega) I' (a + 0) ?_)
    rw [hF0 rfl] at s'
    exact s'
  · have g := (not_congr (i_eq (x := r44) (y := 0) rfl (show (0 : Int32).toInt = 0 from rfl))).mp g
    rw [z1, z2] at p44
    refine mc_here t s (by omega) (fun r2 hr2 => ?_)
    intro x53 e53 I54 e54
    rw [e54]
    have d53 : x53.toInt = (GS (I0 uR) (min sz 76)) a - 48 := by
      rw [e53]
      exact (i_sub (i_add (i_mul (show (10 : Int32).toInt = 10 from rfl) (y := 0) z (by omega) (by omega)) (y := r2) rfl (by omega) (by omega)) (show (48 : Int32).toInt = 48 from rfl) (by omega) (by omega)).trans (by omega)
    have s1 := MRc_at t s (by omega) (by omega)
    unfold f_X12_number_L18
    refine ⟨fun _ => ?_, fun c => ?_⟩
    · refine mc_numE (d := 1) t s1 e4 (show (0 : Int32).toInt = 0 from rfl) (show (7 : Int32).toInt = 7 from rfl) h0 (by omega) (fun _ q1 q2 => h1 (by omega) _ _ d53 s1) (fun q I' F' hF _ hF1 s' => h2 (by omega) I' (a + 1) ?_)
      rw [show F' = a by have := hF1 (by omega); omega] at s'
      exact s'
    · exact absurd ((i_le e41 s1.2.2.1).mpr (by omega)) c
set_option maxHeartbeats 1000000 in
theorem mc_puts {cc : Nat → Nat → Int} {Z : jZ} {I0 : jI} {L : jL} {v0 uR : Nat} {sz a F n : Int} {v1 v2 v3 v4 v5 v6 v7 : Int32} {Q : Int32 → jI → jL → Prop} (t : MT Z I0 v0 uR sz) (e1 : v1.toInt = n) (h2 : 0 ≤ v2.toInt ∧ v2.toInt ≤ 30) (h3 : 0 ≤ v3.toInt ∧ v3.toInt ≤ 9) (h4 : 0 ≤ v4.toInt ∧ v4.toInt ≤ 20) (h7 : 1 ≤ v7.toInt ∧ n + v7.toInt ≤ 24 ∧ 0 ≤ n)
    (hcv : ∀ q : Nat, n ≤ (q : Int) → (q : Int) < n + v7.toInt → cc 0 q = v2.toInt ∧ cc 1 q = v3.toInt ∧ cc 2 q = v4.toInt ∧ cc 4 q = v5.toInt ∧ cc 3 q = v6.toInt)
    (hQ : ∀ (r : Int32) I', r.toInt = n + v7.toInt → MRc cc (n + v7.toInt) Z I0 v0 sz I' a F → Q r I' L) :
    ∀ (m : Nat) (v8 : Int32) (I : jI), MRc cc (n + v8.toInt) Z I0 v0 sz I a F → 0 ≤ v8.toInt → v8.toInt ≤ v7.toInt → v7.toInt - v8.toInt < (m : Int) → f_X12_readLine_L109 Z Q m v0 v1 v2 v3 v4 v5 v6 v7 v8 I L := by
  intro m
  induction m with
  | zero => intro v8 I s g1 g2 g3; exfalso; omega
  | succ m ih =>
    intro v8 I s g1 g2 g3
    unfold f_X12_readLine_L109
    refine ⟨fun c => ?_, fun c => ?_⟩
    · have c := (i_le (x := v7) (y := v8) rfl rfl).mp c
      rw [show v8.toInt = v7.toInt by omega] at s
      exact hQ _ I (i_add e1 rfl (by omega) (by omega)) s
    have c := (not_congr (i_le (x := v7) (y := v8) rfl rfl)).mp c
    obtain ⟨b, eb, kb, lb⟩ := sh_f s.1.1.1 t.2.1 (j := 28) (k := 14) (m := 120) rfl
    have s9 : MR Z I0 v0 sz I a F := ⟨s.1.1, s.2⟩
    intro x2 e2
    have d2 : x2.toInt = 5 * (n + v8.toInt) := by
      rw [e2]
      exact i_mul (show (5 : Int32).toInt = 5 from rfl) (i_add e1 rfl (by omega) (by omega)) (by omega) (by omega)
    have n0 := i_nat d2 (by omega)
    have d21 : (x2 + (1 : Int32)).toInt = 5 * (n + v8.toInt) + 1 := i_add d2 (show (1 : Int32).toInt = 1 from rfl) (by omega) (by omega)
    have n1 := i_nat d21 (by omega)
    have d22 : (x2 + (2 : Int32)).toInt = 5 * (n + v8.toInt) + 2 := i_add d2 (show (2 : Int32).toInt = 2 from rfl) (by omega) (by omega)
    have n2 := i_nat d22 (by omega)
    have d23 : (x2 + (3 : Int32)).toInt = 5 * (n + v8.toInt) + 3 := i_add d2 (show (3 : Int32).toInt = 3 from rfl) (by omega) (by omega)
    have n3 := i_nat d23 (by omega)
    have d24 : (x2 + (4 : Int32)).toInt = 5 * (n + v8.toInt) + 4 := i_add d2 (show (4 : Int32).toInt = 4 from rfl) (by omega) (by omega)
    have n4 := i_nat d24 (by omega)
    intro b0 eb0
    cases eb.symm.trans eb0
    refine ⟨vi_of d2 (by omega) (by omega), ?_⟩
    intro J0 eJ0
    have s0 : MR Z I0 v0 sz J0 a F := by
      rw [eJ0]
      exact MR_put28 t s9 eb kb (show (x2.toNatClampNeg % 5 = 0 → rg 0 30 v2) ∧ (x2.toNatClampNeg % 5 = 1 → rg 0 9 v2) ∧ (x2.toNatClampNeg % 5 = 2 → rg 0 20 v2) from ⟨fun _ => h2, fun h => by omega, fun h => by omega⟩)
    intro b1 eb1
    cases eb.symm.trans eb1
    refine ⟨vi_of d21 (by omega) (by omega), ?_⟩
    intro J1 eJ1
    have s1 : MR Z I0 v0 sz J1 a F := by
      rw [eJ1]
      exact MR_put28 t s0 eb kb (show ((x2 + (1 : Int32)).toNatClampNeg % 5 = 0 → rg 0 30 v3) ∧ ((x2 + (1 : Int32)).toNatClampNeg % 5 = 1 → rg 0 9 v3) ∧ ((x2 + (1 : Int32)).toNatClampNeg % 5 = 2 → rg 0 20 v3) from ⟨fun h => by omega, fun _ => h3, fun h => by omega⟩)
    intro b2 eb2
    cases eb.symm.trans eb2
    refine ⟨vi_of d22 (by omega) (by omega), ?_⟩
    intro J2 eJ2
    have s2 : MR Z I0 v0 sz J2 a F := by
      rw [eJ2]
      exact MR_put28 t s1 eb kb (show ((x2 + (2 : Int32)).toNatClampNeg % 5 = 0 → rg 0 30 v4) ∧ ((x2 + (2 : Int32)).toNatClampNeg % 5 = 1 → rg 0 9 v4) ∧ ((x2 + (2 : Int32)).toNatClampNeg % 5 = 2 → rg 0 20 v4) from ⟨fun h => by omega, fun h => by omega, fun _ => h4⟩)
    intro b3 eb3
    cases eb.symm.trans eb3
    refine ⟨vi_of d23 (by omega) (by omega), ?_⟩
    intro J3 eJ3
    have s3 : MR Z I0 v0 sz J3 a F := by
      rw [eJ3]
      exact MR_put28 t s2 eb kb (show ((x2 + (3 : Int32)).toNatClampNeg % 5 = 0 → rg 0 30 v5) ∧ ((x2 + (3 : Int32)).toNatClampNeg % 5 = 1 → rg 0 9 v5) ∧ ((x2 + (3 : Int32)).toNatClampNeg % 5 = 2 → rg 0 20 v5) from ⟨fun h => by omega, fun h => by omega, fun h => by omega⟩)
    intro b4 eb4
    cases eb.symm.trans eb4
    refine ⟨vi_of d24 (by omega) (by omega), ?_⟩
    intro J4 eJ4
    have s4 : MR Z I0 v0 sz J4 a F := by
      rw [eJ4]
      exact MR_put28 t s3 eb kb (show ((x2 + (4 : Int32)).toNatClampNeg % 5 = 0 → rg 0 30 v6) ∧ ((x2 + (4 : Int32)).toNatClampNeg % 5 = 1 → rg 0 9 v6) ∧ ((x2 + (4 : Int32)).toNatClampNeg % 5 = 2 → rg 0 20 v6) from ⟨fun h => by omega, fun h => by omega, fun h => by omega⟩)
    intro x18 e18
    have d18 : x18.toInt = v8.toInt + 1 := by rw [e18]; exact i_add rfl (show (1 : Int32).toInt = 1 from rfl) (by omega) (by omega)
    have cm4 : CM cc Z J4 v0 (n + x18.toInt) := by
      intro u hu q hq
      cases eb.symm.trans hu
      obtain ⟨q0, q1, q2, q3, q4⟩ := hcv (n + v8.toInt).toNat (by omega) (by omega)
      by_cases hqn : (q : Int) = n + v8.toInt
      · have hq' : q = (n + v8.toInt).toNat := by omega
        rw [← hq'] at q0 q1 q2 q3 q4
        rw [show 5 * q = x2.toNatClampNeg by omega]
        have m1 : x2.toNatClampNeg + 1 = (x2 + (1 : Int32)).toNatClampNeg := by omega
        have m2 : x2.toNatClampNeg + 2 = (x2 + (2 : Int32)).toNatClampNeg := by omega
        have m3 : x2.toNatClampNeg + 3 = (x2 + (3 : Int32)).toNatClampNeg := by omega
        have m4 : x2.toNatClampNeg + 4 = (x2 + (4 : Int32)).toNatClampNeg := by omega
        refine ⟨?_, ?_, ?_, ?_, ?_⟩
        · rw [eJ4, jpI_off (by omega), eJ3, jpI_off (by omega), eJ2, jpI_off (by omega), eJ1, jpI_off (by omega), eJ0, jpI_at]; exact q0.symm
        · rw [m1, eJ4, jpI_off (by omega), eJ3, jpI_off (by omega), eJ2, jpI_off (by omega), eJ1, jpI_at]; exact q1.symm
        · rw [m2, eJ4, jpI_off (by omega), eJ3, jpI_off (by omega), eJ2, jpI_at]; exact q2.symm
        · rw [m3, eJ4, jpI_off (by omega), eJ3, jpI_at]; exact q3.symm
        · rw [m4, eJ4, jpI_at]; exact q4.symm
      · have off : ∀ z : Nat, z < x2.toNatClampNeg → J4 b z = I b z := fun z hz => by
          rw [eJ4, jpI_off (by omega), eJ3, jpI_off (by omega), eJ2, jpI_off (by omega), eJ1, jpI_off (by omega), eJ0, jpI_off (by omega)]
        rw [off (5 * q) (by omega), off (5 * q + 1) (by omega), off (5 * q + 2) (by omega), off (5 * q + 3) (by omega), off (5 * q + 4) (by omega)]
        exact s.1.2 b eb q (by omega)
    exact ih x18 J4 ⟨⟨s4.1, cm4⟩, s4.2⟩ (by omega) (by omega) (by omega)
theorem mc_line_fin {cc : Nat → Nat → Int} {Z : jZ} {I0 I : jI} {L : jL} {v0 uR : Nat} {sz a n : Int} {v1 v2 v3 v4 v5 v6 v7 : Int32} {Q : Int32 → jI → jL → Prop} (t : MT Z I0 v0 uR sz) (s : MRc cc n Z I0 v0 sz I (a) (-1)) (e1 : v1.toInt = n) (h2 : 0 ≤ v2.toInt ∧ v2.toInt ≤ 30) (h3 : 0 ≤ v3.toInt ∧ v3.toInt ≤ 9) (h4 : 0 ≤ v4.toInt ∧ v4.toInt ≤ 20) (h7 : 1 ≤ v7.toInt ∧ n + v7.toInt ≤ 24 ∧ 0 ≤ n)
    (hcv : ∀ q : Nat, n ≤ (q : Int) → (q : Int) < n + v7.toInt → cc 0 q = v2.toInt ∧ cc 1 q = v3.toInt ∧ cc 2 q = v4.toInt ∧ cc 4 q = v5.toInt ∧ cc 3 q = v6.toInt)
    (hQ : ∀ (r : Int32) I', r.toInt = n + v7.toInt → MRc cc (n + v7.toInt) Z I0 v0 sz I' (a) (-1) → Q r I' L) : f_X12_readLine_b95 Z Q v0 v1 v2 v3 v4 v5 v6 v7 I L := by
  unfold f_X12_readLine_b95
  have z : (0 : Int32).toInt = 0 := rfl
  exact mc_fine s (fun _ => ⟨fun _ => ⟨v7.toInt.toNat + 1, mc_puts t e1 h2 h3 h4 h7 hcv hQ _ 0 I (by rw [z, show n + 0 = n by omega]; exact s) (by rw [z]; omega) (by rw [z]; omega) (by rw [z]; omega)⟩, fun c => absurd c (by decide)⟩) (fun c => absurd rfl c)
theorem mc_lineE {cc : Nat → Nat → Int} {Z : jZ} {I0 I : jI} {L : jL} {v0 uR : Nat} {sz a n : Int} {v1 v2 v3 v4 v5 s0 : Int32} {Q : Int32 → jI → jL → Prop} (t : MT Z I0 v0 uR sz) (s : MRc cc n Z I0 v0 sz I (a) (-1)) (h0 : 0 ≤ a ∧ a ≤ 99) (hn : 0 ≤ n ∧ n < 24) (e1 : v1.toInt = n) (g2 : 0 ≤ v2.toInt ∧ v2.toInt ≤ 30) (g3 : 0 ≤ v3.toInt ∧ v3.toInt ≤ 9) (g4 : 0 ≤ v4.toInt ∧ v4.toInt ≤ 20)
    (hcv : ∀ q : Nat, n ≤ (q : Int) → (q : Int) < n + (lnE (GS (I0 uR) (min sz 76)) a n).2.2 → cc 0 q = v2.toInt ∧ cc 1 q = v3.toInt ∧ cc 2 q = v4.toInt ∧ cc 4 q = v5.toInt ∧ cc 3 q = s0.toInt)
    (h1 : (lnE (GS (I0 uR) (min sz 76)) a n).1 = -1 → ∀ (r : Int32) I', r.toInt = n + (lnE (GS (I0 uR) (min sz 76)) a n).2.2 → MRc cc (n + (lnE (GS (I0 uR) (min sz 76)) a n).2.2) Z I0 v0 sz I' ((lnE (GS (I0 uR) (min sz 76)) a n).2.1) (-1) → Q r I' L)
    (h2 : (lnE (GS (I0 uR) (min sz 76)) a n).1 ≠ -1 → ∀ I' a', MRc cc n Z I0 v0 sz I' (a') ((lnE (GS (I0 uR) (min sz 76)) a n).1) → Q v1 I' L) : f_X12_readLine_b70 Z Q v0 v1 v2 v3 v4 v5 s0 I L := by
  have nb := nbad_eq (GS (I0 uR) (min sz 76)) (a + 1)
  have nr := nd_rng (GS (I0 uR) (min sz 76)) (a + 1)
  unfold f_X12_readLine_b70
  refine mc_pass (k := 42) t s rfl (by omega) rfl (fun g I1 s1 => ⟨fun c => absurd c (by decide), fun _ => ?_⟩) (fun g => ⟨fun _ => ?_, fun c => absurd rfl c⟩)
  · refine mc_number (lo := 1) (hi := 24 - n) t s1 rfl rfl (i_sub (show (24 : Int32).toInt = 24 from rfl) e1 (by omega) (by omega)) (by omega) (fun q r I2 er s2 => ?_) (fun q I2 sD => ?_)
    · have e : lnE (GS (I0 uR) (min sz 76)) a n = (-1, a + 1 + nd (GS (I0 uR) (min sz 76)) (a + 1), nv (GS (I0 uR) (min sz 76)) (a + 1)) := by unfold lnE; rw [if_pos g, if_pos q]
      rw [e] at h1 hcv
      exact mc_line_fin t s2 e1 g2 g3 g4 (by omega) (by rw [er]; exact hcv) (fun r' I' e' s' => h1 rfl r' I' (by rw [er] at e'; exact e') (by rw [er] at s'; exact s'))
    · have e : lnE (GS (I0 uR) (min sz 76)) a n = (nbad (GS (I0 uR) (min sz 76)) (a + 1), 0, 0) := by unfold lnE; rw [if_pos g, if_neg q]
      rw [e] at h2
      have hD : nbad (GS (I0 uR) (min sz 76)) (a + 1) ≠ -1 := by omega
      unfold f_X12_readLine_b95
      exact mc_fine sD (fun c => absurd c hD) (fun _ => ⟨fun c => absurd rfl c, fun _ => h2 hD _ _ sD⟩)
  · have e : lnE (GS (I0 uR) (min sz 76)) a n = (-1, a, 1) := by unfold lnE; rw [if_neg g]
    rw [e] at h1 hcv
    have o1 : (1 : Int32).toInt = 1 := rfl
    exact mc_line_fin t s e1 g2 g3 g4 (by rw [o1]; omega) (by rw [o1]; exact hcv) (fun r' I' e' s' => h1 rfl r' I' (by rw [o1] at e'; exact e') (by rw [o1] at s'; exact s'))
theorem mc_line {cc : Nat → Nat → Int} {Z : jZ} {I0 I : jI} {L : jL} {v0 uR : Nat} {sz a n : Int} {v1 : Int32} {Q : Int32 → jI → jL → Prop} (t : MT Z I0 v0 uR sz) (s : MRc cc n Z I0 v0 sz I (a) (-1)) (h0 : 0 ≤ a ∧ a ≤ 80) (hn : 0 ≤ n ∧ n < 24) (e1 : v1.toInt = n)
    (hcv : ∀ q : Nat, n ≤ (q : Int) → (q : Int) < n + (lnA (GS (I0 uR) (min sz 76)) a n).2.2 → ∀ j, cc j q = lnV (GS (I0 uR) (min sz 76)) a j)
    (h1 : (lnA (GS (I0 uR) (min sz 76)) a n).1 = -1 → ∀ (r : Int32) I', r.toInt = n + (lnA (GS (I0 uR) (min sz 76)) a n).2.2 → MRc cc (n + (lnA (GS (I0 uR) (min sz 76)) a n).2.2) Z I0 v0 sz I' ((lnA (GS (I0 uR) (min sz 76)) a n).2.1) (-1) → Q r I' L)
    (h2 : (lnA (GS (I0 uR) (min sz 76)) a n).1 ≠ -1 → ∀ I' a', MRc cc n Z I0 v0 sz I' (a') ((lnA (GS (I0 uR) (min sz 76)) a n).1) → Q v1 I' L) : f_X12_readLine v0 v1 Z I L Q := by
  unfold f_X12_readLine
  have s0 := s
  have nb0 := nbad_eq (GS (I0 uR) (min sz 76)) a
  have nr0 := nd_rng (GS (I0 uR) (min sz 76)) a
  refine mc_number (lo := 1) (hi := 30) t s0 rfl rfl rfl (by omega) (fun g0 r0 Ia0 er0 s1 => ?_) (fun g0 Ia0 sD => ?_)
  rotate_left
  · have e : lnA (GS (I0 uR) (min sz 76)) a n = (nbad (GS (I0 uR) (min sz 76)) a, 0, 0) := by unfold lnA; rw [if_neg g0]
    rw [e] at h2
    have hD : nbad (GS (I0 uR) (min sz 76)) a ≠ -1 := by omega
    refine mc_needD sD hD ?_
    refine mc_numberD sD hD ?_
    refine mc_needD sD hD ?_
    refine mc_numberD sD hD ?_
    refine mc_needD sD hD ?_
    refine mc_numberD sD hD ?_
    refine mc_passD sD hD ⟨fun _ => ?_, fun c => absurd rfl c⟩
    unfold f_X12_readLine_b70
    refine mc_passD sD hD ⟨fun _ => ?_, fun c => absurd rfl c⟩
    unfold f_X12_readLine_b95
    exact mc_fine sD (fun c => absurd c hD) (fun _ => ⟨fun c => absurd rfl c, fun _ => h2 hD _ _ sD⟩)
  refine mc_need (k := 44) t s1 rfl (by omega) rfl (fun m0 J0 s2 => ?_) (fun m0 J0 sD => ?_)
  rotate_left
  · have e : lnA (GS (I0 uR) (min sz 76)) a n = (a + nd (GS (I0 uR) (min sz 76)) a, 0, 0) := by unfold lnA; rw [if_pos g0, if_neg m0]
    rw [e] at h2
    have hD : a + nd (GS (I0 uR) (min sz 76)) a ≠ -1 := by omega
    refine mc_numberD sD hD ?_
    refine mc_needD sD hD ?_
    refine mc_numberD sD hD ?_
    refine mc_needD sD hD ?_
    refine mc_numberD sD hD ?_
    refine mc_passD sD hD ⟨fun _ => ?_, fun c => absurd rfl c⟩
    unfold f_X12_readLine_b70
    refine mc_passD sD hD ⟨fun _ => ?_, fun c => absurd rfl c⟩
    unfold f_X12_readLine_b95
    exact mc_fine sD (fun c => absurd c hD) (fun _ => ⟨fun c => absurd rfl c, fun _ => h2 hD _ _ sD⟩)
  have elnA : lnA (GS (I0 uR) (min sz 76)) a n = lnB (GS (I0 uR) (min sz 76)) (a + nd (GS (I0 uR) (min sz 76)) a + 1) n := by unfold lnA; rw [if_pos g0, if_pos m0]
  rw [elnA] at h1 h2 hcv
  obtain ⟨a2, ea2⟩ : ∃ x, x = a + nd (GS (I0 uR) (min sz 76)) a + 1 := ⟨_, rfl⟩
  rw [← ea2] at h1 h2 s2 hcv
  have nb1 := nbad_eq (GS (I0 uR) (min sz 76)) a2
  have nr1 := nd_rng (GS (I0 uR) (min sz 76)) a2
  refine mc_number (lo := 0) (hi := 9) t s2 rfl rfl rfl (by omega) (fun g1 r1 Ia1 er1 s3 => ?_) (fun g1 Ia1 sD => ?_)
  rotate_left
  · have e : lnB (GS (I0 uR) (min sz 76)) a2 n = (nbad (GS (I0 uR) (min sz 76)) a2, 0, 0) := by unfold lnB; rw [if_neg g1]
    rw [e] at h2
    have hD : nbad (GS (I0 uR) (min sz 76)) a2 ≠ -1 := by omega
    refine mc_needD sD hD ?_
    refine mc_numberD sD hD ?_
    refine mc_needD sD hD ?_
    refine mc_numberD sD hD ?_
    refine mc_passD sD hD ⟨fun _ => ?_, fun c => absurd rfl c⟩
    unfold f_X12_readLine_b70
    refine mc_passD sD hD ⟨fun _ => ?_, fun c => absurd rfl c⟩
    unfold f_X12_readLine_b95
    exact mc_fine sD (fun c => absurd c hD) (fun _ => ⟨fun c => absurd rfl c, fun _ => h2 hD _ _ sD⟩)
  refine mc_need (k := 44) t s3 rfl (by omega) rfl (fun m1 J1 s4 => ?_) (fun m1 J1 sD => ?_)
  rotate_left
  · have e : lnB (GS (I0 uR) (min sz 76)) a2 n = (a2 + nd (GS (I0 uR) (min sz 76)) a2, 0, 0) := by unfold lnB; rw [if_pos g1, if_neg m1]
    rw [e] at h2
    have hD : a2 + nd (GS (I0 uR) (min sz 76)) a2 ≠ -1 := by omega
    refine mc_numberD sD hD ?_
    refine mc_needD sD hD ?_
    refine mc_numberD sD hD ?_
    refine mc_passD sD hD ⟨fun _ => ?_, fun c => absurd rfl c⟩
    unfold f_X12_readLine_b70
    refine mc_passD sD hD ⟨fun _ => ?_, fun c => absurd rfl c⟩
    unfold f_X12_readLine_b95
    exact mc_fine sD (fun c => absurd c hD) (fun _ => ⟨fun c => absurd rfl c, fun _ => h2 hD _ _ sD⟩)
  have elnB : lnB (GS (I0 uR) (min sz 76)) a2 n = lnC (GS (I0 uR) (min sz 76)) (a2 + nd (GS (I0 uR) (min sz 76)) a2 + 1) n := by unfold lnB; rw [if_pos g1, if_pos m1]
  rw [elnB] at h1 h2 hcv
  obtain ⟨a3, ea3⟩ : ∃ x, x = a2 + nd (GS (I0 uR) (min sz 76)) a2 + 1 := ⟨_, rfl⟩
  rw [← ea3] at h1 h2 s4 hcv
  have nb2 := nbad_eq (GS (I0 uR) (min sz 76)) a3
  have nr2 := nd_rng (GS (I0 uR) (min sz 76)) a3
  refine mc_number (lo := 0) (hi := 20) t s4 rfl rfl rfl (by omega) (fun g2 r2 Ia2 er2 s5 => ?_) (fun g2 Ia2 sD => ?_)
  rotate_left
  · have e : lnC (GS (I0 uR) (min sz 76)) a3 n = (nbad (GS (I0 uR) (min sz 76)) a3, 0, 0) := by unfold lnC; rw [if_neg g2]
    rw [e] at h2
    have hD : nbad (GS (I0 uR) (min sz 76)) a3 ≠ -1 := by omega
    refine mc_needD sD hD ?_
    refine mc_numberD sD hD ?_
    refine mc_passD sD hD ⟨fun _ => ?_, fun c => absurd rfl c⟩
    unfold f_X12_readLine_b70
    refine mc_passD sD hD ⟨fun _ => ?_, fun c => absurd rfl c⟩
    unfold f_X12_readLine_b95
    exact mc_fine sD (fun c => absurd c hD) (fun _ => ⟨fun c => absurd rfl c, fun _ => h2 hD _ _ sD⟩)
  refine mc_need (k := 64) t s5 rfl (by omega) rfl (fun m2 J2 s6 => ?_) (fun m2 J2 sD => ?_)
  rotate_left
  · have e : lnC (GS (I0 uR) (min sz 76)) a3 n = (a3 + nd (GS (I0 uR) (min sz 76)) a3, 0, 0) := by unfold lnC; rw [if_pos g2, if_neg m2]
    rw [e] at h2
    have hD : a3 + nd (GS (I0 uR) (min sz 76)) a3 ≠ -1 := by omega
    refine mc_numberD sD hD ?_
    refine mc_passD sD hD ⟨fun _ => ?_, fun c => absurd rfl c⟩
    unfold f_X12_readLine_b70
    refine mc_passD sD hD ⟨fun _ => ?_, fun c => absurd rfl c⟩
    unfold f_X12_readLine_b95
    exact mc_fine sD (fun c => absurd c hD) (fun _ => ⟨fun c => absurd rfl c, fun _ => h2 hD _ _ sD⟩)
  have elnC : lnC (GS (I0 uR) (min sz 76)) a3 n = lnD (GS (I0 uR) (min sz 76)) (a3 + nd (GS (I0 uR) (min sz 76)) a3 + 1) n := by unfold lnC; rw [if_pos g2, if_pos m2]
  rw [elnC] at h1 h2 hcv
  obtain ⟨a4, ea4⟩ : ∃ x, x = a3 + nd (GS (I0 uR) (min sz 76)) a3 + 1 := ⟨_, rfl⟩
  rw [← ea4] at h1 h2 s6 hcv
  refine mc_family t s6 rfl (by omega) (fun g3 r3 Ia3 er3 s7 => ?_) (fun g3 Ia3 p3 sD => ?_)
  rotate_left
  · have e : lnD (GS (I0 uR) (min sz 76)) a4 n = (a4, 0, 0) := by unfold lnD; rw [if_neg g3]
    rw [e] at h2
    have hD : a4 ≠ -1 := by omega
    refine mc_passD sD hD ⟨fun _ => ?_, fun c => absurd rfl c⟩
    unfold f_X12_readLine_b70
    refine mc_passD sD hD ⟨fun _ => ?_, fun c => absurd rfl c⟩
    unfold f_X12_readLine_b95
    exact mc_fine sD (fun c => absurd c hD) (fun _ => ⟨fun c => absurd rfl c, fun _ => h2 hD _ _ sD⟩)
  have elnD : lnD (GS (I0 uR) (min sz 76)) a4 n = lnE (GS (I0 uR) (min sz 76)) (a4 + 1 + (if (GS (I0 uR) (min sz 76)) (a4 + 1) = 119 then 1 else 0)) n := by unfold lnD; rw [if_pos g3]
  rw [elnD] at h1 h2 hcv
  refine mc_pass (k := 119) t s7 rfl (by omega) rfl (fun hw I8 s8 => ⟨fun c => absurd c (by decide), fun _ => ?_⟩) (fun hw => ⟨fun _ => ?_, fun c => absurd rfl c⟩)
  · rw [if_pos hw] at h1 h2 hcv
    exact mc_lineE t s8 (by omega) hn e1 (by omega) (by omega) (by omega) (fun q q1 q2 => ⟨(hcv q q1 q2 0).trans er0.symm, (hcv q q1 q2 1).trans (by show nv (GS (I0 uR) (min sz 76)) (a + nd (GS (I0 uR) (min sz 76)) a + 1) = _; rw [← ea2]; exact er1.symm), (hcv q q1 q2 2).trans (by show nv (GS (I0 uR) (min sz 76)) (a + nd (GS (I0 uR) (min sz 76)) a + 1 + nd (GS (I0 uR) (min sz 76)) (a + nd (GS (I0 uR) (min sz 76)) a + 1) + 1) = _; rw [← ea2, ← ea3]; exact er2.symm), (hcv q q1 q2 4).trans (by show (GS (I0 uR) (min sz 76)) (a + nd (GS (I0 uR) (min sz 76)) a + 1 + nd (GS (I0 uR) (min sz 76)) (a + nd (GS (I0 uR) (min sz 76)) a + 1) + 1 + nd (GS (I0 uR) (min sz 76)) (a + nd (GS (I0 uR) (min sz 76)) a + 1 + nd (GS (I0 uR) (min sz 76)) (a + nd (GS (I0 uR) (min sz 76)) a + 1) + 1) + 1) - 48 = _; rw [← ea2, ← ea3, ← ea4]; exact er3.symm), (hcv q q1 q2 3).trans (by show (if (GS (I0 uR) (min sz 76)) (a + nd (GS (I0 uR) (min sz 76)) a + 1 + nd (GS (I0 uR) (min sz 76)) (a + nd (GS (I0 uR) (min sz 76)) a + 1) + 1 + nd (GS (I0 uR) (min sz 76)) (a + nd (GS (I0 uR) (min sz 76)) a + 1 + nd (GS (I0 uR) (min sz 76)) (a + nd (GS (I0 uR) (min sz 76)) a + 1) + 1) + 1 + 1) = 119 then (1 : Int) else 0) = _; rw [← ea2, ← ea3, ← ea4, if_pos hw]; rfl)⟩) h1 h2
  · rw [if_neg hw] at h1 h2 hcv
    have s8 : MRc cc n Z I0 v0 sz Ia3 (a4 + 1 + 0) (-1) := by rw [show a4 + 1 + 0 = a4 + 1 by omega]; exact s7
    exact mc_lineE t s8 (by omega) hn e1 (by omega) (by omega) (by omega) (fun q q1 q2 => ⟨(hcv q q1 q2 0).trans er0.symm, (hcv q q1 q2 1).trans (by show nv (GS (I0 uR) (min sz 76)) (a + nd (GS (I0 uR) (min sz 76)) a + 1) = _; rw [← ea2]; exact er1.symm), (hcv q q1 q2 2).trans (by show nv (GS (I0 uR) (min sz 76)) (a + nd (GS (I0 uR) (min sz 76)) a + 1 + nd (GS (I0 uR) (min sz 76)) (a + nd (GS (I0 uR) (min sz 76)) a + 1) + 1) = _; rw [← ea2, ← ea3]; exact er2.symm), (hcv q q1 q2 4).trans (by show (GS (I0 uR) (min sz 76)) (a + nd (GS (I0 uR) (min sz 76)) a + 1 + nd (GS (I0 uR) (min sz 76)) (a + nd (GS (I0 uR) (min sz 76)) a + 1) + 1 + nd (GS (I0 uR) (min sz 76)) (a + nd (GS (I0 uR) (min sz 76)) a + 1 + nd (GS (I0 uR) (min sz 76)) (a + nd (GS (I0 uR) (min sz 76)) a + 1) + 1) + 1) - 48 = _; rw [← ea2, ← ea3, ← ea4]; exact er3.symm), (hcv q q1 q2 3).trans (by show (if (GS (I0 uR) (min sz 76)) (a + nd (GS (I0 uR) (min sz 76)) a + 1 + nd (GS (I0 uR) (min sz 76)) (a + nd (GS (I0 uR) (min sz 76)) a + 1) + 1 + nd (GS (I0 uR) (min sz 76)) (a + nd (GS (I0 uR) (min sz 76)) a + 1 + nd (GS (I0 uR) (min sz 76)) (a + nd (GS (I0 uR) (min sz 76)) a + 1) + 1) + 1 + 1) = 119 then (1 : Int) else 0) = _; rw [← ea2, ← ea3, ← ea4, if_neg hw]; rfl)⟩) h1 h2
theorem mc_lines {B : Nat × Nat} {cc : Nat → Nat → Int} {Z : jZ} {I0 : jI} {L : jL} {v0 uR : Nat} {sz : Int} {Q : Int32 → jZ → jI → jL → Prop} (t : MT Z I0 v0 uR sz)
    (hE : ∀ (I : jI) (a F : Int) (v1 : Int32), MRc cc (v1.toInt) Z I0 v0 sz I (a) (F) → ENm (GS (I0 uR) (min sz 76)) (min sz 76) a F v1.toInt → f_X12_stairs_b83 B Q v0 v1 Z I L) :
    ∀ (m k : Nat) (v1 : Int32) (a : Int) (I : jI), MRc cc (v1.toInt) Z I0 v0 sz I (a) (-1) → 0 ≤ v1.toInt → v1.toInt ≤ 24 → 0 ≤ a → a ≤ min sz 76 → min sz 76 + 2 - a ≤ (m : Int) → min sz 76 + 1 - a ≤ (k : Int) → rdS (GS (I0 uR) (min sz 76)) (min sz 76) k a v1.toInt = rdS (GS (I0 uR) (min sz 76)) (min sz 76) 77 0 0 → (∀ j (q : Nat), v1.toInt ≤ (q : Int) → cS (GS (I0 uR) (min sz 76)) k a v1.toInt j q = cc j q) → f_X12_stairs_L39 B Q m v0 v1 1 Z I L := by
  have hg : ∀ x, min sz 76 ≤ x → (GS (I0 uR) (min sz 76)) x = -1 := fun x hx => GS_out hx
  have tz := t.2.2.2.2.2.2
  have out : ∀ (m : Nat) (v1 : Int32) (a F : Int) (I : jI), MRc cc (v1.toInt) Z I0 v0 sz I (a) (F) → ENm (GS (I0 uR) (min sz 76)) (min sz 76) a F v1.toInt → f_X12_stairs_L39 B Q (m + 1) v0 v1 0 Z I L := by
    intro m v1 a F I s e
    unfold f_X12_stairs_L39
    exact ⟨fun _ => hE I a F v1 s e, fun c => absurd rfl c⟩
  intro m
  induction m with
  | zero => intro k v1 a I s h1 h2 h3 h4 h5 h6 hr hc; exfalso; omega
  | succ m ih =>
    intro k v1 a I s h1 h2 h3 h4 h5 h6 hr hc
    obtain ⟨m', em⟩ : ∃ m', m = m' + 1 := ⟨m - 1, by omega⟩
    obtain ⟨k', ek⟩ : ∃ k', k = k' + 1 := ⟨k - 1, by omega⟩
    subst ek
    unfold rdS at hr
    unfold f_X12_stairs_L39
    refine ⟨fun c => absurd c (by decide), fun _ => ?_⟩
    refine mc_fine s (fun _ => ⟨fun c => absurd c (by decide), fun _ => ⟨fun c => ?_, fun c => ?_⟩⟩) (fun c => absurd rfl c)
    · have c := (not_congr (i_eq (x := v1) (y := 24) rfl (show (24 : Int32).toInt = 24 from rfl))).mp c
      have hn : v1.toInt < 24 := by omega
      rw [if_pos hn] at hr
      refine mc_line (n := v1.toInt) t s (by omega) (by omega) rfl (fun q q1 q2 j => (hc j q q1).symm.trans (cS_here q2)) (fun e r I1 er s1 => ?_) (fun e I1 a1 s1 => ?_)
      · rw [if_pos e] at hr
        have ok := lnA_ok hn e h3
        have lm := lnA_lim hg h3 e
        rw [← er] at hr s1
        have hc1 : ∀ j (q : Nat), r.toInt ≤ (q : Int) → cS (GS (I0 uR) (min sz 76)) k' ((lnA (GS (I0 uR) (min sz 76)) a v1.toInt).2.1 + 1) r.toInt j q = cc j q := fun j q hq => by
          rw [er]
          exact (cS_step (by omega)).symm.trans (hc j q (by omega))
        refine mc_pass (k := 59) t s1 rfl (by omega) rfl (fun g I2 s2 => ?_) (fun g => ?_)
        · have := at_lim hg g (by omega)
          rw [if_pos (by omega), if_pos g] at hr
          exact ih k' r _ I2 s2 (by omega) (by omega) (by omega) (by omega) (by omega) (by omega) hr hc1
        · rw [em]
          refine out m' r _ _ I1 s1 ?_
          by_cases q : (lnA (GS (I0 uR) (min sz 76)) a v1.toInt).2.1 < min sz 76
          · rw [if_pos q, if_neg g] at hr
            exact Or.inr (Or.inl ⟨rfl, q, by omega, hr⟩)
          · rw [if_neg q] at hr
            exact Or.inr (Or.inr ⟨rfl, by omega, hr⟩)
      · rw [if_neg e] at hr
        refine mc_passD s1 e ?_
        rw [em]
        exact out m' v1 a1 _ I1 s1 (Or.inl ⟨e, hr⟩)
    · have c := (i_eq (x := v1) (y := 24) rfl (show (24 : Int32).toInt = 24 from rfl)).mp c
      rw [if_neg (by omega)] at hr
      refine mc_fault t s rfl (fun I1 s1 => ?_)
      rw [s.2.2.1] at s1
      exact hE I1 a a v1 s1 (Or.inl ⟨by omega, hr⟩)
theorem mc_b83 {B : Nat × Nat} {cc : Nat → Nat → Int} {Z : jZ} {I0 I : jI} {L : jL} {v0 uR : Nat} {sz a F : Int} {v1 : Int32} {Q : Int32 → jZ → jI → jL → Prop} (t : MT Z I0 v0 uR sz) (s : MRc cc (v1.toInt) Z I0 v0 sz I (a) (F)) (hz : 0 < sz) (e : ENm (GS (I0 uR) (min sz 76)) (min sz 76) a F v1.toInt)
    (h1 : ∀ (r : Int32) I' a' F', MRc cc (v1.toInt) Z I0 v0 sz I' (a') (F') → r.toInt = stA (I0 uR) sz → r.toInt < 0 → Q r Z I' L)
    (h2 : ∀ I' a' F', MRc cc (v1.toInt) Z I0 v0 sz I' (a') (F') → v1.toInt = stA (I0 uR) sz → 2 ≤ v1.toInt → ∀ I66, I66 = jpI I' v0 0 v1 → ∃ m131, f_X12_stairs_L131 B Q m131 v0 v1 0 Z I66 L) : f_X12_stairs_b83 B Q v0 v1 Z I L := by
  have hlo := rdS_lo (g := (GS (I0 uR) (min sz 76))) (lim := min sz 76) 77 0 0 (by omega)
  have b102 : ∀ I' a' F', -1 ≤ F' → MRc cc (v1.toInt) Z I0 v0 sz I' (a') (F') → stA (I0 uR) sz = (if F' = -1 then (if 2 ≤ v1.toInt then v1.toInt else -100) else -1 - F') → f_X12_stairs_b102 B Q v0 v1 Z I' L := by
    intro I' a' F' hF s' e'
    unfold f_X12_stairs_b102
    refine mc_fine s' (fun c => ⟨fun _ => ⟨fun c1 => ?_, fun c1 => ?_⟩, fun c => absurd c (by decide)⟩) (fun c => ⟨fun c1 => absurd rfl c1, fun _ => ?_⟩)
    · have c1 := (i_le (x := 2) (y := v1) (show (2 : Int32).toInt = 2 from rfl) rfl).mp c1
      rw [if_pos c, if_pos c1] at e'
      exact h2 I' a' F' s' e'.symm c1
    · have c1 := (not_congr (i_le (x := 2) (y := v1) (show (2 : Int32).toInt = 2 from rfl) rfl)).mp c1
      rw [if_pos c, if_neg c1] at e'
      exact h1 _ I' a' F' s' e'.symm (by decide)
    · rw [if_neg c] at e'
      have rr := i_rng (I' v0 27)
      have sF := s'.2.2.2.1
      have ei : ((-1 : Int32) - (I' v0 27)).toInt = -1 - F' := i_sub (show (-1 : Int32).toInt = -1 from rfl) sF (by omega) (by omega)
      exact h1 _ I' a' F' s' (ei.trans e'.symm) (by omega)
  have hS : stA (I0 uR) sz = (if (rdS (GS (I0 uR) (min sz 76)) (min sz 76) 77 0 0).1 = -1 then (if sz ≤ 76 then (if 2 ≤ (rdS (GS (I0 uR) (min sz 76)) (min sz 76) 77 0 0).2 then (rdS (GS (I0 uR) (min sz 76)) (min sz 76) 77 0 0).2 else -100) else -77) else -1 - (rdS (GS (I0 uR) (min sz 76)) (min sz 76) 77 0 0).1) := by
    unfold stA
    rw [if_neg (by omega)]
  have s4 := s.2.2.2.2.1
  unfold f_X12_stairs_b83
  refine ⟨fun c => ?_, fun c => ?_⟩
  · have c := (i_le s4 s.2.2.1).mp c
    rcases e with ⟨q1, q2⟩ | ⟨q1, q2, q0, q3⟩ | ⟨q1, q2, q3⟩
    · rw [← q2] at hS hlo
      exact b102 I a F hlo s (by rw [hS, if_neg q1, if_neg q1])
    · omega
    · rw [← q3] at hS
      exact b102 I a F (by omega) s (by rw [hS, if_pos rfl, if_pos q1, if_pos (by omega)])
  · have c := (not_congr (i_le s4 s.2.2.1)).mp c
    rcases e with ⟨q1, q2⟩ | ⟨q1, q2, q0, q3⟩ | ⟨q1, q2, q3⟩
    · rw [← q2] at hS hlo
      exact mc_faultD s q1 (b102 I a F hlo s (by rw [hS, if_neg q1, if_neg q1]))
    · rw [← q3] at hS
      refine mc_fault t s q1 (fun I' s' => ?_)
      rw [s.2.2.1] at s'
      refine b102 I' a a (by omega) s' ?_
      have q : ¬ a = -1 := by omega
      rw [hS, if_neg q, if_neg q]
    · rw [← q3] at hS
      refine mc_fault t s q1 (fun I' s' => ?_)
      rw [s.2.2.1] at s'
      refine b102 I' a a (by omega) s' ?_
      rw [hS, if_pos rfl, if_neg (by omega), if_neg (by omega)]
      omega
