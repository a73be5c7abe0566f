
set_option maxHeartbeats 4000000 in
set_option maxRecDepth 100000 in
theorem s9_X9_put {Z : jZ} {I : jI} {L : jL} (w_I : WD Z I) (v0 : Nat) (v1 : Int32) (v2 : Int32) (v3 : Int32) (v4 : Int32) (v5 : Int32) (kv0 : jk Z v0 9) (p0 : 0 ≤ v3.toInt ∧ v3.toInt ≤ 20) {Q : jI → jL → Prop} (hQ : ∀  (I' : jI) (L' : jL), WD Z I' → FR Ws_X9_put Z I Z I' → ((I v0 5).toInt < 24 → (I' v0 5).toInt = (I v0 5).toInt + 1) → Q I' L') : f_X9_put v0 v1 v2 v3 v4 v5 Z I L Q := by
  unfold f_X9_put
  have q_I : FR Ws_X9_put Z I Z I := FR.rf
  have rv1 := i_rng v1
  have rv2 := i_rng v2
  have rv3 := i_rng v3
  have rv4 := i_rng v4
  have rv5 := i_rng v5
  have t1 : 0 ≤ (I v0 5).toInt ∧ (I v0 5).toInt ≤ 24 := w_I.fld 9 5 kv0 (by decide)
  have t3 : 0 ≤ (I v0 5).toInt ∧ (I v0 5).toInt ≤ 24 := w_I.fld 9 5 kv0 (by decide)
  refine ⟨fun c4 => ?_, fun c4 => ?_⟩
  · skip
    first | (have t5 : (24) ≤ (I v0 5).toInt := (i_le (show (24 : Int32).toInt = 24 from rfl) rfl).mp c4) | (have t5 : (24 : Int32).toInt ≤ (I v0 5).toInt := (i_le rfl rfl).mp c4) | skip
    exact hQ  I L w_I q_I (by intro h9; omega)
  · skip
    first | (have t6 : ¬ ((24) ≤ (I v0 5).toInt) := (not_congr (i_le (show (24 : Int32).toInt = 24 from rfl) rfl)).mp c4) | (have t6 : ¬ ((24 : Int32).toInt ≤ (I v0 5).toInt) := (not_congr (i_le rfl rfl)).mp c4) | skip
    intro b7 eb7
    obtain ⟨x8, ex8, kb7, lb7⟩ := sh_f w_I.1 kv0 (j := 0) (k := 14) (m := 24) rfl
    cases eb7.symm.trans ex8
    have t10 : 0 ≤ (I v0 5).toInt ∧ (I v0 5).toInt ≤ 24 := w_I.fld 9 5 kv0 (by decide)
    have o11 : vp_in (I v0 5) 24 := vi_of rfl (by omega) (by omega)
    refine ⟨o11, ?_⟩
    intro I12 eI12
    have w_I12 : WD Z I12 := by rw [eI12]; exact WD_putA w_I 9 0 kv0 eb7 kb7 rfl rfl (by decide) trivial
    have f_I12 : FR [(9, 0)] Z I Z I12 := by rw [eI12]; exact FR_upA w_I.2.1 kv0 eb7 kb7 rfl rfl List.mem_cons_self
    have q_I12 : FR Ws_X9_put Z I Z I12 := q_I.trans w_I.1 w_I.2.1 (f_I12.mono (by decide))
    have u13 : (I12 v0 5).toInt = (I v0 5).toInt := by rw [f_I12.2.2.1 v0 9 5 kv0 (by decide) (by decide)]
    intro b14 eb14
    obtain ⟨x15, ex15, kb14, lb14⟩ := sh_f w_I12.1 kv0 (j := 1) (k := 14) (m := 24) rfl
    cases eb14.symm.trans ex15
    have t17 : 0 ≤ (I12 v0 5).toInt ∧ (I12 v0 5).toInt ≤ 24 := w_I12.fld 9 5 kv0 (by decide)
    have o18 : vp_in (I12 v0 5) 24 := vi_of rfl (by omega) (by omega)
    refine ⟨o18, ?_⟩
    intro I19 eI19
    have w_I19 : WD Z I19 := by rw [eI19]; exact WD_putA w_I12 9 1 kv0 eb14 kb14 rfl rfl (by decide) trivial
    have f_I19 : FR [(9, 1)] Z I12 Z I19 := by rw [eI19]; exact FR_upA w_I12.2.1 kv0 eb14 kb14 rfl rfl List.mem_cons_self
    have q_I19 : FR Ws_X9_put Z I Z I19 := q_I12.trans w_I.1 w_I.2.1 (f_I19.mono (by decide))
    have u20 : (I19 v0 5).toInt = (I12 v0 5).toInt := by rw [f_I19.2.2.1 v0 9 5 kv0 (by decide) (by decide)]
    intro b21 eb21
    obtain ⟨x22, ex22, kb21, lb21⟩ := sh_f w_I19.1 kv0 (j := 2) (k := 14) (m := 24) rfl
    cases eb21.symm.trans ex22
    have t24 : 0 ≤ (I19 v0 5).toInt ∧ (I19 v0 5).toInt ≤ 24 := w_I19.fld 9 5 kv0 (by decide)
    have o25 : vp_in (I19 v0 5) 24 := vi_of rfl (by omega) (by omega)
    refine ⟨o25, ?_⟩
    intro I26 eI26
    have w_I26 : WD Z I26 := by rw [eI26]; exact WD_putA w_I19 9 2 kv0 eb21 kb21 rfl rfl (by decide) (by constructor <;> omega)
    have f_I26 : FR [(9, 2)] Z I19 Z I26 := by rw [eI26]; exact FR_upA w_I19.2.1 kv0 eb21 kb21 rfl rfl List.mem_cons_self
    have q_I26 : FR Ws_X9_put Z I Z I26 := q_I19.trans w_I.1 w_I.2.1 (f_I26.mono (by decide))
    have u27 : (I26 v0 5).toInt = (I19 v0 5).toInt := by rw [f_I26.2.2.1 v0 9 5 kv0 (by decide) (by decide)]
    intro b28 eb28
    obtain ⟨x29, ex29, kb28, lb28⟩ := sh_f w_I26.1 kv0 (j := 3) (k := 14) (m := 24) rfl
    cases eb28.symm.trans ex29
    have t31 : 0 ≤ (I26 v0 5).toInt ∧ (I26 v0 5).toInt ≤ 24 := w_I26.fld 9 5 kv0 (by decide)
    have o32 : vp_in (I26 v0 5) 24 := vi_of rfl (by omega) (by omega)
    refine ⟨o32, ?_⟩
    intro I33 eI33
    have w_I33 : WD Z I33 := by rw [eI33]; exact WD_putA w_I26 9 3 kv0 eb28 kb28 rfl rfl (by decide) trivial
    have f_I33 : FR [(9, 3)] Z I26 Z I33 := by rw [eI33]; exact FR_upA w_I26.2.1 kv0 eb28 kb28 rfl rfl List.mem_cons_self
    have q_I33 : FR Ws_X9_put Z I Z I33 := q_I26.trans w_I.1 w_I.2.1 (f_I33.mono (by decide))
    have u34 : (I33 v0 5).toInt = (I26 v0 5).toInt := by rw [f_I33.2.2.1 v0 9 5 kv0 (by decide) (by decide)]
    intro b35 eb35
    obtain ⟨x36, ex36, kb35, lb35⟩ := sh_f w_I33.1 kv0 (j := 4) (k := 14) (m := 24) rfl
    cases eb35.symm.trans ex36
    have t38 : 0 ≤ (I33 v0 5).toInt ∧ (I33 v0 5).toInt ≤ 24 := w_I33.fld 9 5 kv0 (by decide)
    have o39 : vp_in (I33 v0 5) 24 := vi_of rfl (by omega) (by omega)
    refine ⟨o39, ?_⟩
    intro I40 eI40
    have w_I40 : WD Z I40 := by rw [eI40]; exact WD_putA w_I33 9 4 kv0 eb35 kb35 rfl rfl (by decide) trivial
    have f_I40 : FR [(9, 4)] Z I33 Z I40 := by rw [eI40]; exact FR_upA w_I33.2.1 kv0 eb35 kb35 rfl rfl List.mem_cons_self
    have q_I40 : FR Ws_X9_put Z I Z I40 := q_I33.trans w_I.1 w_I.2.1 (f_I40.mono (by decide))
    have u41 : (I40 v0 5).toInt = (I33 v0 5).toInt := by rw [f_I40.2.2.1 v0 9 5 kv0 (by decide) (by decide)]
    have t43 : 0 ≤ (I40 v0 5).toInt ∧ (I40 v0 5).toInt ≤ 24 := w_I40.fld 9 5 kv0 (by decide)
    intro I44 eI44
    try (have t45 : ((I40 v0 5) + (1 : Int32)).toInt = ((I40 v0 5).toInt + (1)) := (i_add rfl (show (1 : Int32).toInt = 1 from rfl) (by omega) (by omega)))
    have w_I44 : WD Z I44 := by rw [eI44]; exact WD_putF w_I40 9 5 kv0 (by decide) (by decide) (by constructor <;> omega)
    have f_I44 : FR [(9, 5)] Z I40 Z I44 := by rw [eI44]; exact FR_putF kv0 (by decide) List.mem_cons_self
    have q_I44 : FR Ws_X9_put Z I Z I44 := q_I40.trans w_I.1 w_I.2.1 (f_I44.mono (by decide))
    first | (have u46 : (I44 v0 5).toInt = ((I40 v0 5).toInt + (1)) := by (rw [eI44, show jpI I40 v0 5 ((I40 v0 5) + (1 : Int32)) v0 5 = ((I40 v0 5) + (1 : Int32)) from jpI_at] <;> exact (i_add rfl (show (1 : Int32).toInt = 1 from rfl) (by omega) (by omega)))) | skip
    exact hQ  I44 L w_I44 q_I44 (by intro h9; omega)

/-! ===== the class reads THE STAIRS ===== -/
/-- the text that is read: cell v1, its signs uB -/
def TX (Z : jZ) (I0 : jI) (v0 v1 uB : Nat) (lim : Int) : Prop := WD Z I0 ∧ jk Z v0 9 ∧ jk Z v1 10 ∧ jr Z v1 0 = some uB ∧ jk Z uB 13 ∧ (lim ≤ (I0 v1 1).toInt ∧ (I0 v1 1).toInt ≤ 80 ∧ lim ≤ 76) ∧ BY (I0 uB)
/-- the reader at place a, n steps told, fault F -/
def RS (Z : jZ) (I0 : jI) (v0 : Nat) (lim : Int) (I : jI) (a n F : Int) : Prop := WD Z I ∧ FR Ws_X9_read Z I0 Z I ∧ (I v0 6).toInt = a ∧ (I v0 5).toInt = n ∧ (I v0 8).toInt = F ∧ (I v0 7).toInt = lim
theorem RS_txt {Z : jZ} {I0 I : jI} {v0 v1 uB : Nat} {lim a n F : Int} (t : TX Z I0 v0 v1 uB lim) (s : RS Z I0 v0 lim I a n F) : I v1 1 = I0 v1 1 ∧ I uB = I0 uB := by
  obtain ⟨w0, k0, k1, hB, kB, hl, hb⟩ := t
  exact ⟨s.2.1.2.2.1 v1 10 1 k1 (by decide) (by decide), s.2.1.2.2.2 v1 10 0 uB k1 hB (by rw [kB.2]; rfl) rfl (by decide)⟩
theorem RS_put {Z : jZ} {I0 I : jI} {v0 v1 uB j : Nat} {lim a n F : Int} {x : Int32} (t : TX Z I0 v0 v1 uB lim) (s : RS Z I0 v0 lim I a n F) (hm : (9, j) ∈ Ws_X9_read) (ok : okF 9 j x) : WD Z (jpI I v0 j x) ∧ FR Ws_X9_read Z I0 Z (jpI I v0 j x) := by
  obtain ⟨w0, k0, k1, hB, kB, hl, hb⟩ := t
  exact ⟨WD_putF s.1 9 j k0 (by decide) (by decide) ok, s.2.1.trans w0.1 w0.2.1 (FR_putF k0 (by decide) hm)⟩
theorem jpI_o {I : jI} {a j i : Nat} {x : Int32} (h : i ≠ j) : jpI I a j x a i = I a i := by
  show va_up I a (upd (I a) j x) a i = _
  rw [va_up_self]
  exact if_neg h
/-- the place moves on -/
theorem RS_at {Z : jZ} {I0 I : jI} {v0 v1 uB : Nat} {lim a n F : Int} {y : Int32} {d : Int} (t : TX Z I0 v0 v1 uB lim) (s : RS Z I0 v0 lim I a n F) (hy : y.toInt = d) (h1 : -1000 ≤ a + d) (h2 : a + d ≤ 1000) : RS Z I0 v0 lim (jpI I v0 6 ((I v0 6) + y)) (a + d) n F := by
  obtain ⟨g1, g2⟩ := RS_put (j := 6) (x := (I v0 6) + y) t s (by decide) trivial
  refine ⟨g1, g2, ?_, ?_, ?_, ?_⟩
  · rw [jpI_at]; exact i_add s.2.2.1 hy (by omega) (by omega)
  · rw [jpI_o (by decide)]; exact s.2.2.2.1
  · rw [jpI_o (by decide)]; exact s.2.2.2.2.1
  · rw [jpI_o (by decide)]; exact s.2.2.2.2.2
theorem r_fail {Z : jZ} {I0 I : jI} {L : jL} {v0 v1 uB : Nat} {lim a n F : Int} {y : Int32} {Q : Int32 → jI → jL → Prop} (t : TX Z I0 v0 v1 uB lim) (s : RS Z I0 v0 lim I a n F) (h : ∀ I', RS Z I0 v0 lim I' a n y.toInt → Q 0 I' L) : f_X9_fail v0 y Z I L Q := by
  unfold f_X9_fail
  intro I1 e1
  obtain ⟨g1, g2⟩ := RS_put (j := 8) (x := y) t s (by decide) trivial
  rw [e1]
  refine h _ ⟨g1, g2, ?_, ?_, ?_, ?_⟩
  · rw [jpI_o (by decide)]; exact s.2.2.1
  · rw [jpI_o (by decide)]; exact s.2.2.2.1
  · rw [jpI_at]
  · rw [jpI_o (by decide)]; exact s.2.2.2.2.2
theorem CLk_neg {f : Nat → Int32} {lim a : Int} (h1 : a < 0) : CLk (GS f lim a) (-1) := by
  unfold GS
  rw [if_neg (by omega)]
  unfold CLk
  omega
theorem r_look {Z : jZ} {I0 I : jI} {L : jL} {v0 v1 uB : Nat} {lim a n F : Int} {Q : Int32 → jI → jL → Prop} (t : TX Z I0 v0 v1 uB lim) (s : RS Z I0 v0 lim I a n F) (h0 : 0 ≤ a) (h : ∀ r : Int32, CLk (GS (I0 uB) lim a) r.toInt → Q r I L) : f_X9_look v0 v1 Z I L Q := by
  obtain ⟨e1, e2⟩ := RS_txt t s
  obtain ⟨w0, k0, k1, hB, kB, hl, hb⟩ := t
  obtain ⟨w, f, sa, sn, sF, sl⟩ := s
  unfold f_X9_look
  refine ⟨fun c => h _ ?_, fun c => ?_⟩
  · exact CLk_out ((i_le sl sa).mp c)
  have c := (not_congr (i_le sl sa)).mp c
  unfold f_X10_signAt
  refine ⟨fun c1 => ?_, fun c1 => ⟨fun c2 => ?_, fun c2 => ⟨fun c3 => ?_, fun c3 => ?_⟩⟩⟩
  · have := (i_lt sa (show (0 : Int32).toInt = 0 from rfl)).mp c1
    omega
  · rw [e1] at c2
    have := (i_le rfl sa).mp c2
    omega
  · have := (i_le (show (80 : Int32).toInt = 80 from rfl) sa).mp c3
    omega
  · intro b eb
    cases hB.symm.trans eb
    refine ⟨vi_of sa (by omega) (by omega), h _ ?_⟩
    rw [e2]
    have := CLk_in (f := I0 uB) (lim := lim) (x := I v0 6) hb (by omega) (by omega)
    rw [sa] at this
    exact this
theorem r_mark {Z : jZ} {I0 I : jI} {L : jL} {v0 v1 uB : Nat} {lim a n F : Int} {c : Int32} {k : Int} {Q : Int32 → jI → jL → Prop} (t : TX Z I0 v0 v1 uB lim) (s : RS Z I0 v0 lim I a n F) (h0 : 0 ≤ a ∧ a ≤ 100) (hk : c.toInt = k) (hc : 0 ≤ k ∧ k ≤ 127) (h1 : GS (I0 uB) lim a = k → ∀ I', RS Z I0 v0 lim I' (a + 1) n F → Q 1 I' L) (h2 : GS (I0 uB) lim a ≠ k → ∀ I', RS Z I0 v0 lim I' a n a → Q 0 I' L) : f_X9_readMark v0 v1 c Z I L Q := by
  unfold f_X9_readMark
  refine r_look t s h0.1 (fun r hr => ⟨fun e => ?_, fun e => ?_⟩)
  · intro I9 e9
    rw [e9]
    refine h1 ?_ _ (RS_at t s (show (1 : Int32).toInt = 1 from rfl) (by omega) (by omega))
    subst e
    unfold CLk at hr
    omega
  · refine r_fail t s (fun I' s' => ?_)
    rw [s.2.2.1] at s'
    refine h2 (fun q => e ((i_eq rfl rfl).mpr ?_)) _ s'
    have := hr.1 (by omega)
    omega
theorem r_break {Z : jZ} {I0 I : jI} {L : jL} {v0 v1 uB : Nat} {lim a n F : Int} {Q : Int32 → jI → jL → Prop} (t : TX Z I0 v0 v1 uB lim) (s : RS Z I0 v0 lim I a n F) (h0 : 0 ≤ a ∧ a ≤ 100) (h1 : a < lim → GS (I0 uB) lim a = 59 → ∀ I', RS Z I0 v0 lim I' (a + 1) n F → Q 1 I' L) (h2 : a < lim → GS (I0 uB) lim a ≠ 59 → ∀ I', RS Z I0 v0 lim I' a n a → Q 0 I' L) (h3 : lim ≤ a → Q 0 I L) : f_X9_readBreak v0 v1 Z I L Q := by
  unfold f_X9_readBreak
  refine ⟨fun c => h3 ((i_le s.2.2.2.2.2 s.2.2.1).mp c), fun c => ?_⟩
  have c := (not_congr (i_le s.2.2.2.2.2 s.2.2.1)).mp c
  refine r_mark (k := 59) t s h0 rfl (by decide) (fun g I' s' => ⟨fun e => absurd e (by decide), fun _ => h1 (by omega) g I' s'⟩) (fun g I' s' => ⟨fun _ => h2 (by omega) g I' s', fun e => absurd rfl e⟩)
theorem r_num {Z : jZ} {I0 : jI} {L : jL} {v0 v1 uB : Nat} {lim a n F : Int} {v2 v3 : Int32} {Q : Int32 → jI → jL → Prop} (t : TX Z I0 v0 v1 uB lim) (h0 : 0 ≤ a ∧ a ≤ 100)
    (h1 : 1 ≤ nd (GS (I0 uB) lim) a ∧ v2.toInt ≤ nv (GS (I0 uB) lim) a ∧ nv (GS (I0 uB) lim) a ≤ v3.toInt → ∀ (r : Int32) I', r.toInt = nv (GS (I0 uB) lim) a → RS Z I0 v0 lim I' (a + nd (GS (I0 uB) lim) a) n F → Q r I' L)
    (h2 : ¬ (1 ≤ nd (GS (I0 uB) lim) a ∧ v2.toInt ≤ nv (GS (I0 uB) lim) a ∧ nv (GS (I0 uB) lim) a ≤ v3.toInt) → ∀ I', RS Z I0 v0 lim I' (a + nd (GS (I0 uB) lim) a) n (nbad (GS (I0 uB) lim) a) → Q (-1) I' L) :
    ∀ (m : Nat) (v4 v5 : Int32) (p : Int) (I : jI), RS Z I0 v0 lim I p n F → NI (GS (I0 uB) lim) a v5.toInt v4.toInt p → 3 - v5.toInt ≤ (m : Int) → f_X9_readNumber_L6 Z Q m v0 v1 v2 v3 v4 v5 I L := by
  have fin : ∀ (v4 v5 : Int32) (I : jI), RS Z I0 v0 lim I (a + nd (GS (I0 uB) lim) a) n F → nd (GS (I0 uB) lim) a = v5.toInt → nv (GS (I0 uB) lim) a = v4.toInt → f_X9_readNumber_b55 Z Q v0 v2 v3 v4 v5 I L := by
    intro v4 v5 I s e1 e2
    have nr := nd_rng (GS (I0 uB) lim) a
    have nb := nbad_eq (GS (I0 uB) lim) a
    have bad : ¬ (1 ≤ nd (GS (I0 uB) lim) a ∧ v2.toInt ≤ nv (GS (I0 uB) lim) a ∧ nv (GS (I0 uB) lim) a ≤ v3.toInt) → f_X9_readNumber_b77 Z Q v0 v4 v5 0 I L := by
      intro hb
      unfold f_X9_readNumber_b77
      refine ⟨fun c => absurd rfl c, fun _ => ⟨fun c => ?_, fun c => ?_⟩⟩
      · unfold f_X9_readNumber_b103
        refine r_fail t s (fun I' s' => ?_)
        unfold f_X9_readNumber_b107
        refine ⟨fun _ => h2 hb I' ?_, fun c => absurd rfl c⟩
        have hc := (not_congr (i_eq (x := v5) (y := 0) rfl (show (0 : Int32).toInt = 0 from rfl))).mp c
        have : ((I v0 6) - (1 : Int32)).toInt = nbad (GS (I0 uB) lim) a := (i_sub s.2.2.1 (show (1 : Int32).toInt = 1 from rfl) (by omega) (by omega)).trans (by omega)
        rw [this] at s'
        exact s'
      · unfold f_X9_readNumber_b103
        refine r_fail t s (fun I' s' => ?_)
        unfold f_X9_readNumber_b107
        refine ⟨fun _ => h2 hb I' ?_, fun c => absurd rfl c⟩
        have hc := (i_eq (x := v5) (y := 0) rfl (show (0 : Int32).toInt = 0 from rfl)).mp c
        have : (I v0 6).toInt = nbad (GS (I0 uB) lim) a := s.2.2.1.trans (by omega)
        rw [this] at s'
        exact s'
    unfold f_X9_readNumber_b55 f_X9_readNumber_b76
    refine ⟨fun c => bad ?_, fun c => ⟨fun c1 => bad ?_, fun c1 => ⟨fun c2 => bad ?_, fun c2 => ?_⟩⟩⟩
    · have := (i_le (x := v5) (y := 0) rfl (show (0 : Int32).toInt = 0 from rfl)).mp c
      omega
    · have := (i_lt (x := v4) (y := v2) rfl rfl).mp c1
      omega
    · have := (i_lt (x := v3) (y := v4) rfl rfl).mp c2
      omega
    · have g := (not_congr (i_le (x := v5) (y := 0) rfl (show (0 : Int32).toInt = 0 from rfl))).mp c
      have g1 := (not_congr (i_lt (x := v4) (y := v2) rfl rfl)).mp c1
      have g2 := (not_congr (i_lt (x := v3) (y := v4) rfl rfl)).mp c2
      unfold f_X9_readNumber_b77
      refine ⟨fun _ => ?_, fun c => absurd c (by decide)⟩
      unfold f_X9_readNumber_b107
      exact ⟨fun c => absurd c (by decide), fun _ => h1 (by omega) v4 I (by omega) s⟩
  intro m
  induction m with
  | zero =>
    intro v4 v5 p I s hN hm
    exfalso
    obtain ⟨-, h | h | h⟩ := hN <;> omega
  | succ m ih =>
    intro v4 v5 p I s hN hm
    have hp : p = a + v5.toInt := hN.1
    have hd : 0 ≤ v5.toInt ∧ v5.toInt ≤ 2 := by obtain ⟨-, h | h | h⟩ := hN <;> omega
    have hv : 0 ≤ v4.toInt ∧ v4.toInt ≤ 99 := by obtain ⟨-, h | h | h⟩ := hN <;> omega
    unfold f_X9_readNumber_L6
    refine ⟨fun c => ?_, fun c => ?_⟩
    · have c := (i_le (x := 2) (y := v5) (show (2 : Int32).toInt = 2 from rfl) rfl).mp c
      obtain ⟨g1, g2, g3⟩ := NI_end hN (Or.inl (by omega))
      rw [g3, ← g1] at s
      exact fin v4 v5 I s g1 g2
    have c := (not_congr (i_le (x := 2) (y := v5) (show (2 : Int32).toInt = 2 from rfl) rfl)).mp c
    refine r_look t s (by omega) (fun r hr => ?_)
    unfold f_X10_isDigit
    have stop : ¬ (48 ≤ GS (I0 uB) lim p ∧ GS (I0 uB) lim p ≤ 57) → f_X9_readNumber_b55 Z Q v0 v2 v3 v4 v5 I L := fun hn => by
      obtain ⟨g1, g2, g3⟩ := NI_end hN (Or.inr hn)
      rw [g3, ← g1] at s
      exact fin v4 v5 I s g1 g2
    refine ⟨fun c1 => ?_, fun c1 => ⟨fun c2 => ?_, fun c2 => ?_⟩⟩
    · have c1 := (i_lt (x := r) (y := 48) rfl (show (48 : Int32).toInt = 48 from rfl)).mp c1
      exact ⟨fun _ => stop (fun q => by have := hr.1 (by omega); omega), fun e => absurd rfl e⟩
    · have c2 := (i_lt (x := 57) (y := r) (show (57 : Int32).toInt = 57 from rfl) rfl).mp c2
      exact ⟨fun _ => stop (fun q => by have := hr.1 (by omega); omega), fun e => absurd rfl e⟩
    · have c1 := (not_congr (i_lt (x := r) (y := 48) rfl (show (48 : Int32).toInt = 48 from rfl))).mp c1
      have c2 := (not_congr (i_lt (x := 57) (y := r) (show (57 : Int32).toInt = 57 from rfl) rfl)).mp c2
      have hg : GS (I0 uB) lim p = r.toInt := by unfold CLk at hr; omega
      refine ⟨fun e => absurd e (by decide), fun _ => ?_⟩
      refine r_look t s (by omega) (fun r2 hr2 => ?_)
      have hg2 : r2.toInt = r.toInt := by have := hr2.1 (by omega); omega
      intro x37 e37 I38 e38 x39 e39
      rw [e38]
      have d37 : x37.toInt = v4.toInt * 10 + GS (I0 uB) lim p - 48 := by
        rw [e37]
        exact (i_sub (i_add (i_mul (x := v4) rfl (show (10 : Int32).toInt = 10 from rfl) (by omega) (by omega)) hg2 (by omega) (by omega)) (show (48 : Int32).toInt = 48 from rfl) (by omega) (by omega)).trans (by omega)
      have d39 : x39.toInt = v5.toInt + 1 := by
        rw [e39]
        exact i_add rfl (show (1 : Int32).toInt = 1 from rfl) (by omega) (by omega)
      exact ih x37 x39 (p + 1) _ (RS_at t s (show (1 : Int32).toInt = 1 from rfl) (by omega) (by omega)) (NI_step hN (by omega) (by omega) d39 d37 rfl) (by omega)
theorem r_number {Z : jZ} {I0 I : jI} {L : jL} {v0 v1 uB : Nat} {lim a n F lo hi : Int} {v2 v3 : Int32} {Q : Int32 → jI → jL → Prop} (t : TX Z I0 v0 v1 uB lim) (s : RS Z I0 v0 lim I a n F) (h0 : 0 ≤ a ∧ a ≤ 100) (e2 : v2.toInt = lo) (e3 : v3.toInt = hi)
    (h1 : 1 ≤ nd (GS (I0 uB) lim) a ∧ lo ≤ nv (GS (I0 uB) lim) a ∧ nv (GS (I0 uB) lim) a ≤ hi → ∀ (r : Int32) I', r.toInt = nv (GS (I0 uB) lim) a → RS Z I0 v0 lim I' (a + nd (GS (I0 uB) lim) a) n F → Q r I' L)
    (h2 : ¬ (1 ≤ nd (GS (I0 uB) lim) a ∧ lo ≤ nv (GS (I0 uB) lim) a ∧ nv (GS (I0 uB) lim) a ≤ hi) → ∀ I', RS Z I0 v0 lim I' (a + nd (GS (I0 uB) lim) a) n (nbad (GS (I0 uB) lim) a) → Q (-1) I' L) : f_X9_readNumber v0 v1 v2 v3 Z I L Q := by
  subst e2; subst e3
  unfold f_X9_readNumber
  have z : (0 : Int32).toInt = 0 := rfl
  exact ⟨3, r_num t h0 h1 h2 3 0 0 a I s (by rw [z]; exact NI_0) (by rw [z]; omega)⟩
theorem r_family {Z : jZ} {I0 I : jI} {L : jL} {v0 v1 uB : Nat} {lim a n F : Int} {Q : Int32 → jI → jL → Prop} (t : TX Z I0 v0 v1 uB lim) (s : RS Z I0 v0 lim I a n F) (h0 : 0 ≤ a ∧ a ≤ 100)
    (h1 : 48 ≤ GS (I0 uB) lim a ∧ GS (I0 uB) lim a ≤ 55 → ∀ (r : Int32) I', r.toInt = GS (I0 uB) lim a - 48 → RS Z I0 v0 lim I' (a + 1) n F → Q r I' L)
    (h2 : ¬ (48 ≤ GS (I0 uB) lim a ∧ GS (I0 uB) lim a ≤ 55) → ∀ I', RS Z I0 v0 lim I' a n a → Q (-1) I' L) : f_X9_readFamily v0 v1 Z I L Q := by
  unfold f_X9_readFamily
  refine r_look t s h0.1 (fun r hr => ?_)
  have rr := i_rng r
  intro x8 e8
  have hbig : r.toInt ≤ 255 ∨ 255 < r.toInt := by omega
  have hr2 : -1 ≤ r.toInt := by
    have gr := GS_rng (f := I0 uB) (lim := lim) (a := a) t.2.2.2.2.2.2
    unfold CLk at hr
    omega
  have d8 : x8.toInt = r.toInt - 48 := by
    rw [e8]
    exact i_sub rfl (show (48 : Int32).toInt = 48 from rfl) (by omega) (by omega)
  refine s_X11_isFamily s.1 x8 (fun r15 p15 => ⟨fun c => ?_, fun c => ?_⟩)
  · intro I17 e17
    rw [e17]
    have c := (not_congr (i_eq (x := r15) (y := 0) rfl (show (0 : Int32).toInt = 0 from rfl))).mp c
    have hg : GS (I0 uB) lim a = r.toInt := by unfold CLk at hr; omega
    exact h1 (by omega) x8 _ (by omega) (RS_at t s (show (1 : Int32).toInt = 1 from rfl) (by omega) (by omega))
  · have c := (i_eq (x := r15) (y := 0) rfl (show (0 : Int32).toInt = 0 from rfl)).mp c
    refine r_fail t s (fun I' s' => ?_)
    rw [s.2.2.1] at s'
    refine h2 (fun q => ?_) I' s'
    have := hr.1 (by omega)
    omega
theorem r_times {Z : jZ} {I0 I : jI} {L : jL} {v0 v1 uB : Nat} {lim a n F : Int} {Q : Int32 → jI → jL → Prop} (t : TX Z I0 v0 v1 uB lim) (s : RS Z I0 v0 lim I a n F) (h0 : 0 ≤ a ∧ a ≤ 99) (hn : 0 ≤ n ∧ n ≤ 24)
    (h1 : GS (I0 uB) lim a ≠ 42 → Q 1 I L)
    (h2 : GS (I0 uB) lim a = 42 → 1 ≤ nd (GS (I0 uB) lim) (a + 1) ∧ 1 ≤ nv (GS (I0 uB) lim) (a + 1) ∧ nv (GS (I0 uB) lim) (a + 1) ≤ 24 - n → ∀ (r : Int32) I', r.toInt = nv (GS (I0 uB) lim) (a + 1) → RS Z I0 v0 lim I' (a + 1 + nd (GS (I0 uB) lim) (a + 1)) n F → Q r I' L)
    (h3 : GS (I0 uB) lim a = 42 → ¬ (1 ≤ nd (GS (I0 uB) lim) (a + 1) ∧ 1 ≤ nv (GS (I0 uB) lim) (a + 1) ∧ nv (GS (I0 uB) lim) (a + 1) ≤ 24 - n) → ∀ I', RS Z I0 v0 lim I' (a + 1 + nd (GS (I0 uB) lim) (a + 1)) n (nbad (GS (I0 uB) lim) (a + 1)) → Q (-1) I' L) : f_X9_readTimes v0 v1 Z I L Q := by
  unfold f_X9_readTimes
  refine r_look t s h0.1 (fun r hr => ⟨fun c => ?_, fun c => ?_⟩)
  · have c := (i_eq (x := r) (y := 42) rfl (show (42 : Int32).toInt = 42 from rfl)).mp c
    have hg : GS (I0 uB) lim a = 42 := by unfold CLk at hr; omega
    intro I9 e9
    rw [e9]
    have s9 := RS_at t s (show (1 : Int32).toInt = 1 from rfl) (by omega) (by omega)
    refine r_number (lo := 1) (hi := 24 - n) t s9 (by omega) rfl (i_sub (show (24 : Int32).toInt = 24 from rfl) s9.2.2.2.1 (by omega) (by omega)) (fun g r I' e s' => h2 hg g r I' e s') (fun g I' s' => h3 hg g I' s')
  · refine h1 (fun q => c ((i_eq rfl (show (42 : Int32).toInt = 42 from rfl)).mpr ?_))
    have := hr.1 (by omega)
    omega
theorem r_puts {Z : jZ} {I0 : jI} {v0 v1 uB : Nat} {lim a n F : Int} {v2 v3 v4 v5 v6 v7 : Int32} {Q : Int32 → jI → jL → Prop} (t : TX Z I0 v0 v1 uB lim) (h4 : 0 ≤ v4.toInt ∧ v4.toInt ≤ 20) (h7 : 1 ≤ v7.toInt ∧ n + v7.toInt ≤ 24 ∧ 0 ≤ n)
    (hQ : ∀ I' L', RS Z I0 v0 lim I' a (n + v7.toInt) F → Q 1 I' L') :
    ∀ (m : Nat) (v8 : Int32) (I : jI) (L : jL), RS Z I0 v0 lim I a (n + v8.toInt) F → 0 ≤ v8.toInt → v8.toInt ≤ v7.toInt → v7.toInt - v8.toInt < (m : Int) → f_X9_readLine_L151 Z Q m v0 v2 v3 v4 v5 v6 v7 v8 I L := by
  intro m
  induction m with
  | zero => intro v8 I L s h1 h2 h3; exfalso; omega
  | succ m ih =>
    intro v8 I L s h1 h2 h3
    unfold f_X9_readLine_L151
    refine ⟨fun c => ⟨fun e => ?_, fun _ => ?_⟩, fun c => ?_⟩
    · have := (i_eq (x := v7) (y := -1) rfl (show (-1 : Int32).toInt = -1 from rfl)).mp e
      omega
    · have c := (i_le (x := v7) (y := v8) rfl rfl).mp c
      rw [show v8.toInt = v7.toInt by omega] at s
      exact hQ I L s
    · have c := (not_congr (i_le (x := v7) (y := v8) rfl rfl)).mp c
      have k0 := t.2.1
      refine s9_X9_put s.1 v0 v2 v3 v4 v6 v5 k0 h4 (fun I5 L6 w5 f5 p5 => ?_)
      intro x9 e9
      have d9 : x9.toInt = v8.toInt + 1 := by
        rw [e9]
        exact i_add rfl (show (1 : Int32).toInt = 1 from rfl) (by omega) (by omega)
      have sn := s.2.2.2.1
      refine ih x9 I5 L6 ⟨w5, s.2.1.trans t.1.1 t.1.2.1 (f5.mono (by decide)), ?_, ?_, ?_, ?_⟩ (by omega) (by omega) (by omega)
      · rw [f5.2.2.1 v0 9 6 k0 (by decide) (by decide)]; exact s.2.2.1
      · have := p5 (by omega)
        omega
      · rw [f5.2.2.1 v0 9 8 k0 (by decide) (by decide)]; exact s.2.2.2.2.1
      · rw [f5.2.2.1 v0 9 7 k0 (by decide) (by decide)]; exact s.2.2.2.2.2
/-- the end of a line: how many steps -/
theorem r_lineE {Z : jZ} {I0 I : jI} {L : jL} {v0 v1 uB : Nat} {lim a n : Int} {v2 v3 v4 v5 s0 : Int32} {d : Int} {Q : Int32 → jI → jL → Prop} (t : TX Z I0 v0 v1 uB lim) (s : RS Z I0 v0 lim I a n (-1)) (hd : s0.toInt = d) (h0 : 0 ≤ a + d ∧ a + d ≤ 99) (hn : 0 ≤ n ∧ n < 24) (h4 : 0 ≤ v4.toInt ∧ v4.toInt ≤ 20)
    (h1 : (lnE (GS (I0 uB) lim) (a + d) n).1 = -1 → ∀ I' L', RS Z I0 v0 lim I' (lnE (GS (I0 uB) lim) (a + d) n).2.1 (n + (lnE (GS (I0 uB) lim) (a + d) n).2.2) (-1) → Q 1 I' L')
    (h2 : (lnE (GS (I0 uB) lim) (a + d) n).1 ≠ -1 → ∀ I' L' a', RS Z I0 v0 lim I' a' n (lnE (GS (I0 uB) lim) (a + d) n).1 → Q 0 I' L') : f_X9_readLine_b128 Z Q v0 v1 v2 v3 v4 v5 s0 I L := by
  unfold f_X9_readLine_b128
  intro I10 e10
  rw [e10]
  have s1 := RS_at t s hd (by omega) (by omega)
  have z : (0 : Int32).toInt = 0 := rfl
  refine r_times t s1 h0 (by omega) (fun g => ?_) (fun g g1 r I' er s' => ?_) (fun g g1 I' s' => ?_)
  · have e : lnE (GS (I0 uB) lim) (a + d) n = (-1, a + d, 1) := by unfold lnE; rw [if_neg g]
    rw [e] at h1
    have o : (1 : Int32).toInt = 1 := rfl
    exact ⟨2, r_puts (n := n) (v7 := 1) t h4 (by rw [o]; omega) (fun I' L' s' => h1 rfl I' L' (by rw [o] at s'; exact s')) 2 0 _ L (by rw [z]; rw [show n + 0 = n by omega]; exact s1) (by rw [z]; omega) (by rw [z, o]; omega) (by rw [z, o]; omega)⟩
  · have e : lnE (GS (I0 uB) lim) (a + d) n = (-1, a + d + 1 + nd (GS (I0 uB) lim) (a + d + 1), nv (GS (I0 uB) lim) (a + d + 1)) := by unfold lnE; rw [if_pos g, if_pos g1]
    rw [e] at h1
    exact ⟨r.toInt.toNat + 1, r_puts (n := n) (v7 := r) t h4 (by omega) (fun I' L' s' => h1 rfl I' L' (by rw [er] at s'; exact s')) _ 0 _ L (by rw [z]; rw [show n + 0 = n by omega]; exact s') (by rw [z]; omega) (by rw [z]; omega) (by rw [z]; omega)⟩
  · have e : lnE (GS (I0 uB) lim) (a + d) n = (nbad (GS (I0 uB) lim) (a + d + 1), 0, 0) := by unfold lnE; rw [if_pos g, if_neg g1]
    rw [e] at h2
    have nb := nbad_eq (GS (I0 uB) lim) (a + d + 1)
    have nr := nd_rng (GS (I0 uB) lim) (a + d + 1)
    refine ⟨1, ?_⟩
    unfold f_X9_readLine_L151
    refine ⟨fun _ => ⟨fun _ => h2 (by show nbad _ _ ≠ -1; omega) I' L _ s', fun c => absurd rfl c⟩, fun c => ?_⟩
    exact absurd (by decide) c
/-- a line -/
theorem r_line {Z : jZ} {I0 I : jI} {L : jL} {v0 v1 uB : Nat} {lim a n : Int} {Q : Int32 → jI → jL → Prop} (t : TX Z I0 v0 v1 uB lim) (s : RS Z I0 v0 lim I a n (-1)) (h0 : 0 ≤ a ∧ a ≤ 80) (hn : 0 ≤ n ∧ n ≤ 24)
    (h1 : n < 24 → (lnA (GS (I0 uB) lim) a n).1 = -1 → ∀ I' L', RS Z I0 v0 lim I' (lnA (GS (I0 uB) lim) a n).2.1 (n + (lnA (GS (I0 uB) lim) a n).2.2) (-1) → Q 1 I' L')
    (h2 : n < 24 → (lnA (GS (I0 uB) lim) a n).1 ≠ -1 → ∀ I' L' a', RS Z I0 v0 lim I' a' n (lnA (GS (I0 uB) lim) a n).1 → Q 0 I' L')
    (h3 : 24 ≤ n → ∀ I', RS Z I0 v0 lim I' a n a → Q 0 I' L) : f_X9_readLine v0 v1 Z I L Q := by
  unfold f_X9_readLine
  refine ⟨fun c => ?_, fun c => ?_⟩
  · have c := (i_lt s.2.2.2.1 (show (24 : Int32).toInt = 24 from rfl)).mp c
    have h1 := h1 c
    have h2 := h2 c
    have s0 := s
    have nb0 := nbad_eq (GS (I0 uB) lim) a
    have nr0 := nd_rng (GS (I0 uB) lim) a
    refine r_number (lo := 1) (hi := 30) t s0 (by omega) rfl rfl (fun g0 r0 Ia0 e0 s1 => ⟨fun c => ?_, fun _ => ?_⟩) (fun g0 Ia0 s1 => ⟨fun _ => ?_, fun c => absurd rfl c⟩)
    rotate_left 2
    · have e : lnA (GS (I0 uB) lim) a n = (nbad (GS (I0 uB) lim) a, 0, 0) := by unfold lnA; rw [if_neg g0]
      rw [e] at h2
      exact h2 (by show nbad _ _ ≠ -1; omega) Ia0 L _ s1
    · have := (i_eq (x := r0) (y := -1) rfl (show (-1 : Int32).toInt = -1 from rfl)).mp c
      omega
    refine r_mark (k := 44) t s1 (by omega) rfl (by decide) (fun m0 J0 s2 => ⟨fun _ => ?_, fun c => absurd c (by decide)⟩) (fun m0 J0 s2 => ⟨fun c => absurd rfl c, fun _ => ?_⟩)
    rotate_left
    · have e : lnA (GS (I0 uB) lim) a n = (a + nd (GS (I0 uB) lim) a, 0, 0) := by unfold lnA; rw [if_pos g0, if_neg m0]
      rw [e] at h2
      exact h2 (by show a + nd (GS (I0 uB) lim) a ≠ -1; omega) J0 L _ s2
    have elnA : lnA (GS (I0 uB) lim) a n = lnB (GS (I0 uB) lim) (a + nd (GS (I0 uB) lim) a + 1) n := by unfold lnA; rw [if_pos g0, if_pos m0]
    rw [elnA] at h1 h2
    obtain ⟨a2, eb⟩ : ∃ x, x = a + nd (GS (I0 uB) lim) a + 1 := ⟨_, rfl⟩
    rw [← eb] at h1 h2 s2
    have nb1 := nbad_eq (GS (I0 uB) lim) a2
    have nr1 := nd_rng (GS (I0 uB) lim) a2
    refine r_number (lo := 0) (hi := 9) t s2 (by omega) rfl rfl (fun g1 r1 Ia1 e1 s3 => ⟨fun c => ?_, fun _ => ?_⟩) (fun g1 Ia1 s3 => ⟨fun _ => ?_, fun c => absurd rfl c⟩)
    rotate_left 2
    · have e : lnB (GS (I0 uB) lim) a2 n = (nbad (GS (I0 uB) lim) a2, 0, 0) := by unfold lnB; rw [if_neg g1]
      rw [e] at h2
      exact h2 (by show nbad _ _ ≠ -1; omega) Ia1 L _ s3
    · have := (i_eq (x := r1) (y := -1) rfl (show (-1 : Int32).toInt = -1 from rfl)).mp c
      omega
    refine r_mark (k := 44) t s3 (by omega) rfl (by decide) (fun m1 J1 s4 => ⟨fun _ => ?_, fun c => absurd c (by decide)⟩) (fun m1 J1 s4 => ⟨fun c => absurd rfl c, fun _ => ?_⟩)
    rotate_left
    · have e : lnB (GS (I0 uB) lim) a2 n = (a2 + nd (GS (I0 uB) lim) a2, 0, 0) := by unfold lnB; rw [if_pos g1, if_neg m1]
      rw [e] at h2
      exact h2 (by show a2 + nd (GS (I0 uB) lim) a2 ≠ -1; omega) J1 L _ s4
    have elnB : lnB (GS (I0 uB) lim) a2 n = lnC (GS (I0 uB) lim) (a2 + nd (GS (I0 uB) lim) a2 + 1) n := by unfold lnB; rw [if_pos g1, if_pos m1]
    rw [elnB] at h1 h2
    obtain ⟨a3, ec⟩ : ∃ x, x = a2 + nd (GS (I0 uB) lim) a2 + 1 := ⟨_, rfl⟩
    rw [← ec] at h1 h2 s4
    have nb2 := nbad_eq (GS (I0 uB) lim) a3
    have nr2 := nd_rng (GS (I0 uB) lim) a3
    refine r_number (lo := 0) (hi := 20) t s4 (by omega) rfl rfl (fun g2 r2 Ia2 e2 s5 => ⟨fun c => ?_, fun _ => ?_⟩) (fun g2 Ia2 s5 => ⟨fun _ => ?_, fun c => absurd rfl c⟩)
    rotate_left 2
    · have e : lnC (GS (I0 uB) lim) a3 n = (nbad (GS (I0 uB) lim) a3, 0, 0) := by unfold lnC; rw [if_neg g2]
      rw [e] at h2
      exact h2 (by show nbad _ _ ≠ -1; omega) Ia2 L _ s5
    · have := (i_eq (x := r2) (y := -1) rfl (show (-1 : Int32).toInt = -1 from rfl)).mp c
      omega
    refine r_mark (k := 64) t s5 (by omega) rfl (by decide) (fun m2 J2 s6 => ⟨fun _ => ?_, fun c => absurd c (by decide)⟩) (fun m2 J2 s6 => ⟨fun c => absurd rfl c, fun _ => ?_⟩)
    rotate_left
    · have e : lnC (GS (I0 uB) lim) a3 n = (a3 + nd (GS (I0 uB) lim) a3, 0, 0) := by unfold lnC; rw [if_pos g2, if_neg m2]
      rw [e] at h2
      exact h2 (by show a3 + nd (GS (I0 uB) lim) a3 ≠ -1; omega) J2 L _ s6
    have elnC : lnC (GS (I0 uB) lim) a3 n = lnD (GS (I0 uB) lim) (a3 + nd (GS (I0 uB) lim) a3 + 1) n := by unfold lnC; rw [if_pos g2, if_pos m2]
    rw [elnC] at h1 h2
    obtain ⟨a4, ed⟩ : ∃ x, x = a3 + nd (GS (I0 uB) lim) a3 + 1 := ⟨_, rfl⟩
    rw [← ed] at h1 h2 s6
    refine r_family t s6 (by omega) (fun g3 r3 Ia3 e3 s7 => ⟨fun _ => ?_, fun c => ?_⟩) (fun g3 Ia3 s7 => ⟨fun c => absurd rfl c, fun _ => ?_⟩)
    rotate_left
    · have := (i_eq (x := r3) (y := -1) rfl (show (-1 : Int32).toInt = -1 from rfl)).mp c
      omega
    · have e : lnD (GS (I0 uB) lim) a4 n = (a4, 0, 0) := by unfold lnD; rw [if_neg g3]
      rw [e] at h2
      exact h2 (by show a4 ≠ -1; omega) Ia3 L _ s7
    have elnD : lnD (GS (I0 uB) lim) a4 n = lnE (GS (I0 uB) lim) (a4 + 1 + (if (GS (I0 uB) lim) (a4 + 1) = 119 then 1 else 0)) n := by unfold lnD; rw [if_pos g3]
    rw [elnD] at h1 h2
    refine r_look t s7 (by omega) (fun r8 hr => ⟨fun c => ?_, fun c => ?_⟩)
    · have hw : ¬ (GS (I0 uB) lim) (a4 + 1) = 119 := fun q => c ((i_eq rfl (show (119 : Int32).toInt = 119 from rfl)).mpr (by have := hr.1 (by omega); omega))
      rw [if_neg hw] at h1 h2
      exact r_lineE (d := 0) t s7 rfl (by omega) (by omega) (by omega) h1 h2
    · have c := (i_eq (x := r8) (y := 119) rfl (show (119 : Int32).toInt = 119 from rfl)).mp c
      have hw : (GS (I0 uB) lim) (a4 + 1) = 119 := by unfold CLk at hr; omega
      rw [if_pos hw] at h1 h2
      exact r_lineE (d := 1) t s7 rfl (by omega) (by omega) (by omega) h1 h2
  · have c := (not_congr (i_lt s.2.2.2.1 (show (24 : Int32).toInt = 24 from rfl))).mp c
    refine r_fail t s (fun I' s' => h3 (by omega) I' ?_)
    rw [s.2.2.1] at s'
    exact s'
/-- all lines -/
theorem r_lines {Z : jZ} {I0 : jI} {v0 v1 uB : Nat} {lim : Int} {Q : Int32 → jI → jL → Prop} (t : TX Z I0 v0 v1 uB lim)
    (hE : ∀ (I : jI) (L : jL) (a' F n' : Int), RS Z I0 v0 lim I a' n' F → (F, n') = rdS (GS (I0 uB) lim) lim 77 0 0 → f_X9_read_b81 Z Q v0 v1 I L) :
    ∀ (m k : Nat) (v3 : Int32) (a n : Int) (I : jI) (L : jL), RS Z I0 v0 lim I a n (-1) → 0 ≤ n → n ≤ 24 → 8 * v3.toInt ≤ a → 0 ≤ v3.toInt → a ≤ lim → lim + 2 - a ≤ (m : Int) → lim + 1 - a ≤ (k : Int) → rdS (GS (I0 uB) lim) lim k a n = rdS (GS (I0 uB) lim) lim 77 0 0 → f_X9_read_L43 Z Q m v0 v1 1 v3 I L := by
  have tl := t.2.2.2.2.2.1
  have out : ∀ (m : Nat) (v3 : Int32) (a' F n' : Int) (I : jI) (L : jL), RS Z I0 v0 lim I a' n' F → (F, n') = rdS (GS (I0 uB) lim) lim 77 0 0 → f_X9_read_L43 Z Q (m + 1) v0 v1 0 v3 I L := by
    intro m v3 a' F n' I L s e
    unfold f_X9_read_L43
    exact ⟨fun _ => hE I L a' F n' s e, fun c => absurd rfl c⟩
  intro m
  induction m with
  | zero => intro k v3 a n I L s h1 h2 h3 h4 h5 h6; exfalso; omega
  | succ m ih =>
    intro k v3 a n I L s h1 h2 h3 h4 h5 h6 h7 hr
    have hm : ∃ m', m = m' + 1 := ⟨m - 1, by omega⟩
    obtain ⟨m', em⟩ := hm
    unfold f_X9_read_L43
    refine ⟨fun c => absurd c (by decide), fun _ => ⟨fun c => ?_, fun c => ?_⟩⟩
    · have := (i_le (x := 76) (y := v3) (show (76 : Int32).toInt = 76 from rfl) rfl).mp c
      omega
    have hk : ∃ k', k = k' + 1 := ⟨k - 1, by omega⟩
    obtain ⟨k', ek⟩ := hk
    subst ek
    have d3 : ∀ x : Int32, x = v3 + 1 → x.toInt = v3.toInt + 1 := fun x ex => by rw [ex]; exact i_add rfl (show (1 : Int32).toInt = 1 from rfl) (by omega) (by omega)
    unfold rdS at hr
    refine r_line t s (by omega) ⟨h1, h2⟩ (fun hn e I1 L1 s1 => ?_) (fun hn e I1 L1 a1 s1 => ?_) (fun hn I1 s1 => ?_)
    · rw [if_pos hn, if_pos e] at hr
      have ok := lnA_ok hn e (by omega)
      refine ⟨fun c => absurd c (by decide), fun _ => ?_⟩
      refine r_break t s1 (by omega) (fun hl g I2 s2 => ⟨fun c => absurd c (by decide), fun _ => ?_⟩) (fun hl g I2 s2 => ⟨fun _ => ?_, fun c => absurd rfl c⟩) (fun hl => ⟨fun _ => ?_, fun c => absurd rfl c⟩)
      · rw [if_pos hl, if_pos g] at hr
        unfold f_X9_read_b74
        intro x6 e6
        have := d3 x6 e6
        exact ih k' x6 _ _ I2 L1 s2 (by omega) (by omega) (by omega) (by omega) (by omega) (by omega) (by omega) hr
      · rw [if_pos hl, if_neg g] at hr
        unfold f_X9_read_b73 f_X9_read_b74
        intro x6 e6
        rw [em]
        exact out m' x6 _ _ _ I2 L1 s2 hr
      · rw [if_neg (by omega)] at hr
        unfold f_X9_read_b73 f_X9_read_b74
        intro x6 e6
        rw [em]
        exact out m' x6 _ _ _ I1 L1 s1 hr
    · rw [if_pos hn, if_neg e] at hr
      refine ⟨fun _ => ?_, fun c => absurd rfl c⟩
      unfold f_X9_read_b73 f_X9_read_b74
      intro x6 e6
      rw [em]
      exact out m' x6 _ _ _ I1 L1 s1 hr
    · rw [if_neg (by omega)] at hr
      refine ⟨fun _ => ?_, fun c => absurd rfl c⟩
      unfold f_X9_read_b73 f_X9_read_b74
      intro x6 e6
      rw [em]
      exact out m' x6 _ _ _ I1 L s1 hr
theorem r_read {Z : jZ} {I0 : jI} {L : jL} {v0 v1 uB : Nat} {Q : Int32 → jI → jL → Prop} (w0 : WD Z I0) (k0 : jk Z v0 9) (k1 : jk Z v1 10) (hB : jr Z v1 0 = some uB) (kB : jk Z uB 13) (hb : BY (I0 uB))
    (hQ : ∀ (r : Int32) (I' : jI) (L' : jL), WD Z I' → FR Ws_X9_read Z I0 Z I' → r.toInt = stA (I0 uB) (I0 v1 1).toInt → (0 ≤ r.toInt → (I' v0 5).toInt = r.toInt) → Q r I' L') : f_X9_read v0 v1 Z I0 L Q := by
  have sz : 0 ≤ (I0 v1 1).toInt ∧ (I0 v1 1).toInt ≤ 80 := w0.fld 10 1 k1 (by decide)
  have t : TX Z I0 v0 v1 uB (min (I0 v1 1).toInt 76) := ⟨w0, k0, k1, hB, kB, ⟨by omega, by omega, by omega⟩, hb⟩
  have hne : v1 ≠ v0 := fun e => by subst e; have := k0.2.symm.trans k1.2; omega
  unfold f_X9_read
  intro I26 e26 I27 e27 I28 e28 I29 e29
  have w26 : WD Z I26 := by rw [e26]; exact WD_putF w0 9 5 k0 (by decide) (by decide) (by constructor <;> decide)
  have f26 : FR Ws_X9_read Z I0 Z I26 := by rw [e26]; exact FR_putF k0 (by decide) (by decide)
  have w27 : WD Z I27 := by rw [e27]; exact WD_putF w26 9 6 k0 (by decide) (by decide) trivial
  have f27 : FR Ws_X9_read Z I0 Z I27 := f26.trans w0.1 w0.2.1 (by rw [e27]; exact FR_putF k0 (by decide) (by decide))
  have w28 : WD Z I28 := by rw [e28]; exact WD_putF w27 9 8 k0 (by decide) (by decide) trivial
  have f28 : FR Ws_X9_read Z I0 Z I28 := f27.trans w0.1 w0.2.1 (by rw [e28]; exact FR_putF k0 (by decide) (by decide))
  have w29 : WD Z I29 := by rw [e29]; exact WD_putF w28 9 7 k0 (by decide) (by decide) trivial
  have f29 : FR Ws_X9_read Z I0 Z I29 := f28.trans w0.1 w0.2.1 (by rw [e29]; exact FR_putF k0 (by decide) (by decide))
  have z1 : I28 v1 1 = I0 v1 1 := f28.2.2.1 v1 10 1 k1 (by decide) (by decide)
  have z2 : I29 v1 1 = I0 v1 1 := f29.2.2.1 v1 10 1 k1 (by decide) (by decide)
  have s : RS Z I0 v0 (min (I0 v1 1).toInt 76) I29 0 0 (-1) := by
    refine ⟨w29, f29, ?_, ?_, ?_, ?_⟩
    · rw [e29, jpI_o (by decide), e28, jpI_o (by decide), e27, jpI_at]; rfl
    · rw [e29, jpI_o (by decide), e28, jpI_o (by decide), e27, jpI_o (by decide), e26, jpI_at]; rfl
    · rw [e29, jpI_o (by decide), e28, jpI_at]; rfl
    · rw [e29, jpI_at, z1]
      exact i_min rfl (show (76 : Int32).toInt = 76 from rfl)
  have last : ∀ (I : jI) (L : jL) (a' F n' : Int), RS Z I0 v0 (min (I0 v1 1).toInt 76) I a' n' F → (F = -1 → 2 ≤ n' → n' = stA (I0 uB) (I0 v1 1).toInt) → (F = -1 → n' < 2 → -100 = stA (I0 uB) (I0 v1 1).toInt) → (F ≠ -1 → 0 ≤ F ∧ -1 - F = stA (I0 uB) (I0 v1 1).toInt) → f_X9_read_b104 Z Q v0 I L := by
    intro I L a' F n' s g1 g2 g3
    unfold f_X9_read_b104
    have sF := s.2.2.2.2.1
    have sn := s.2.2.2.1
    refine ⟨fun c => ⟨fun c1 => ?_, fun c1 => ?_⟩, fun c => ?_⟩
    · have c := (i_eq sF (show (-1 : Int32).toInt = -1 from rfl)).mp c
      have c1 := (i_le (show (2 : Int32).toInt = 2 from rfl) sn).mp c1
      exact hQ _ I L s.1 s.2.1 (sn.trans (g1 c c1)) (fun _ => rfl)
    · have c := (i_eq sF (show (-1 : Int32).toInt = -1 from rfl)).mp c
      have c1 := (not_congr (i_le (show (2 : Int32).toInt = 2 from rfl) sn)).mp c1
      exact hQ _ I L s.1 s.2.1 (g2 c (by omega)) (fun q => absurd q (by decide))
    · have c := (not_congr (i_eq sF (show (-1 : Int32).toInt = -1 from rfl))).mp c
      obtain ⟨q1, q3⟩ := g3 c
      have rr := i_rng (I v0 8)
      have e : ((-1 : Int32) - (I v0 8)).toInt = -1 - F := i_sub (show (-1 : Int32).toInt = -1 from rfl) sF (by omega) (by omega)
      exact hQ _ I L s.1 s.2.1 (e.trans q3) (fun q => by omega)
  have hE : ∀ (I : jI) (L : jL) (a' F n' : Int), RS Z I0 v0 (min (I0 v1 1).toInt 76) I a' n' F → ((I0 v1 1).toInt ≤ 0 → F = -1 ∧ n' = 0) → (0 < (I0 v1 1).toInt → (F, n') = rdS (GS (I0 uB) (min (I0 v1 1).toInt 76)) (min (I0 v1 1).toInt 76) 77 0 0) → f_X9_read_b81 Z Q v0 v1 I L := by
    intro I L a' F n' s g0 e
    have sF := s.2.2.2.2.1
    have e1 := (RS_txt t s).1
    have hlo := rdS_lo (g := GS (I0 uB) (min (I0 v1 1).toInt 76)) (lim := min (I0 v1 1).toInt 76) 77 0 0 (by omega)
    have hS : stA (I0 uB) (I0 v1 1).toInt = if F = -1 then (if (I0 v1 1).toInt ≤ 76 then (if 2 ≤ n' then n' else -100) else -77) else -1 - F := by
      unfold stA
      by_cases c : (I0 v1 1).toInt ≤ 0
      · obtain ⟨q1, q2⟩ := g0 c
        rw [if_pos c, if_pos q1, if_pos (by omega), if_neg (by omega)]
      · have e := e (by omega)
        rw [if_neg c, ← e]
    have hF : -1 ≤ F := by
      by_cases c : (I0 v1 1).toInt ≤ 0
      · have := (g0 c).1; omega
      · have e := e (by omega)
        rw [← e] at hlo
        exact hlo
    unfold f_X9_read_b81
    refine ⟨fun c => ?_, fun c => ⟨fun c1 => ?_, fun c1 => ?_⟩⟩
    · have c := (not_congr (i_eq sF (show (-1 : Int32).toInt = -1 from rfl))).mp c
      rw [if_neg c] at hS
      exact last I L a' F n' s (fun q => absurd q c) (fun q => absurd q c) (fun _ => ⟨by omega, hS.symm⟩)
    · have c := (i_eq sF (show (-1 : Int32).toInt = -1 from rfl)).mp c
      rw [e1] at c1
      have c1 := (i_le (y := 76) rfl (show (76 : Int32).toInt = 76 from rfl)).mp c1
      rw [if_pos c, if_pos c1] at hS
      exact last I L a' F n' s (fun _ q => by rw [if_pos q] at hS; exact hS.symm) (fun _ q => by rw [if_neg (by omega)] at hS; exact hS.symm) (fun q => absurd c q)
    · have c := (i_eq sF (show (-1 : Int32).toInt = -1 from rfl)).mp c
      rw [e1] at c1
      have c1 := (not_congr (i_le (y := 76) rfl (show (76 : Int32).toInt = 76 from rfl))).mp c1
      rw [if_pos c, if_neg c1] at hS
      intro I5 e5
      obtain ⟨q1, q2⟩ := RS_put (j := 8) (x := 76) t s (by decide) trivial
      refine last I5 L a' 76 n' ?_ (fun q => by omega) (fun q => by omega) (fun _ => ⟨by omega, hS.symm⟩)
      rw [e5]
      refine ⟨q1, q2, ?_, ?_, ?_, ?_⟩
      · rw [jpI_o (by decide)]; exact s.2.2.1
      · rw [jpI_o (by decide)]; exact s.2.2.2.1
      · rw [jpI_at]; rfl
      · rw [jpI_o (by decide)]; exact s.2.2.2.2.2
  rw [z2]
  unfold f_X9_read_b40
  refine ⟨fun c => ?_, fun c => ?_⟩
  · have c := (i_le (y := 0) rfl (show (0 : Int32).toInt = 0 from rfl)).mp c
    refine ⟨1, ?_⟩
    unfold f_X9_read_L43
    exact ⟨fun _ => hE I29 L 0 (-1) 0 s (fun _ => ⟨rfl, rfl⟩) (fun q => by omega), fun c => absurd rfl c⟩
  · have c := (not_congr (i_le (y := 0) rfl (show (0 : Int32).toInt = 0 from rfl))).mp c
    have z : (0 : Int32).toInt = 0 := rfl
    exact ⟨79, r_lines t (fun I L a' F n' s e => hE I L a' F n' s (fun q => by omega) (fun _ => e)) 79 77 0 0 0 I29 L s (by omega) (by omega) (by rw [z]; omega) (by rw [z]; omega) (by omega) (by omega) (by omega) rfl⟩
