/-! ===== a pilgrim is told ===== -/
theorem sum_sub {f : Nat → Nat} : ∀ (l l' : List Nat), l.Nodup → (∀ a ∈ l, a ∈ l') → (l.map f).sum ≤ (l'.map f).sum := by
  intro l
  induction l with
  | nil => intro l' _ _; exact Nat.zero_le _
  | cons a l ih =>
    intro l' hn hs
    obtain ⟨hna, hn'⟩ := List.nodup_cons.mp hn
    obtain ⟨s, t, rfl⟩ := List.append_of_mem (hs a List.mem_cons_self)
    have h1 := ih (s ++ t) hn' (fun b hb => by
      have hne : b ≠ a := fun e => hna (e ▸ hb)
      rcases List.mem_append.mp (hs b (List.mem_cons_of_mem _ hb)) with h | h
      · exact List.mem_append_left _ h
      · exact List.mem_append_right _ ((List.mem_cons.mp h).resolve_left hne))
    simp only [List.map_cons, List.sum_cons, List.map_append, List.sum_append] at h1 ⊢
    omega
theorem len_sum (l : List Nat) : (l.map (fun _ => 1)).sum = l.length := by
  induction l with
  | nil => rfl
  | cons a l ih => simp only [List.map_cons, List.sum_cons, List.length_cons, ih]; omega
theorem jle_ext {Z Z' : jZ} (uq : UQ Z) (hx : jext Z Z') : jle Z Z' := by
  have hs : ∀ a ∈ Z.1, a ∈ Z'.1 := fun a ha => (hx a _ ⟨ha, rfl⟩).1.1
  constructor
  · have h := sum_sub (f := fun _ => 1) Z.1 Z'.1 uq.1 hs
    rw [len_sum, len_sum] at h
    exact h
  · have h := sum_sub (f := fun a => jcs (Z'.2.1 a) (Z'.2.2.1 a)) Z.1 Z'.1 uq.1 hs
    have e : Z.1.map (fun a => jcs (Z'.2.1 a) (Z'.2.2.1 a)) = Z.1.map (fun a => jcs (Z.2.1 a) (Z.2.2.1 a)) := List.map_congr_left (fun a ha => by
      obtain ⟨h1, h2⟩ := hx a _ ⟨ha, rfl⟩
      rw [h1.2, show Z'.2.2.1 a = Z.2.2.1 a from h2])
    rw [e] at h
    exact h
theorem CW_start {Z : jZ} {I : jI} (w : UQ Z ∧ OK Z I ∧ RI Z I) : CW Z I Z I [] 0 0 0 :=
  ⟨jext_rfl, fun _ _ => ⟨rfl, rfl⟩, fun a c ha hs => absurd ha.1 hs, w, fun u hu => absurd hu List.not_mem_nil, ⟨Nat.le_refl _, Nat.le_refl _, Nat.le_refl _⟩, CP.rf⟩
theorem CW_SH {Zs Z : jZ} {Is I : jI} {x y z : Nat} (h : CW Zs Is Z I [] x y z) (hs : SH Zs) : SH Z := by
  obtain ⟨h1, h2, h3, -, -, -, -⟩ := h
  have old : ∀ a c, jk Z a c → a ∈ Zs.1 → jk Zs a c ∧ ∀ j, jr Z a j = jr Zs a j := fun a c ha hm => by
    have k := (h1 a _ ⟨hm, rfl⟩).1
    exact ⟨⟨hm, k.2.symm.trans ha.2⟩, fun j => congrFun (h2 a hm).1 j⟩
  refine ⟨fun a c ha j k o e => ?_, fun a ha i b e => ?_, fun a ha i hi => ?_, fun a ha i hi => ?_⟩
  · by_cases hm : a ∈ Zs.1
    · obtain ⟨ka, er⟩ := old a c ha hm
      obtain ⟨b, g1, g2, g3⟩ := hs.1 a c ka j k o e
      exact ⟨b, (er j).trans g1, (h1 b k g2).1, fun m hm => (h1 b k g2).2.trans (g3 m hm)⟩
    · obtain ⟨b, g1, -, g2, g3⟩ := (h3 a c ha hm List.not_mem_nil).1 j k o e
      exact ⟨b, g1, g2, g3⟩
  · by_cases hm : a ∈ Zs.1
    · obtain ⟨ka, er⟩ := old a 18 ha hm
      rw [er] at e
      exact (h1 b 5 (hs.2.1 a ka i b e)).1
    · exact ((h3 a 18 ha hm List.not_mem_nil).2.1 rfl i b e).2
  · by_cases hm : a ∈ Zs.1
    · obtain ⟨ka, er⟩ := old a 17 ha hm
      rw [(h1 a 17 ka).2] at hi
      obtain ⟨b, g1, g2⟩ := hs.2.2.1 a ka i hi
      exact ⟨b, (er i).trans g1, (h1 b 2 g2).1⟩
    · obtain ⟨b, g1, -, g2⟩ := (h3 a 17 ha hm List.not_mem_nil).2.2.1 rfl i hi
      exact ⟨b, g1, g2⟩
  · by_cases hm : a ∈ Zs.1
    · obtain ⟨ka, er⟩ := old a 19 ha hm
      rw [(h1 a 19 ka).2] at hi
      obtain ⟨b, g1, g2, g3⟩ := hs.2.2.2 a ka i hi
      exact ⟨b, (er i).trans g1, (h1 b 13 g2).1, (h1 b 13 g2).2.trans g3⟩
    · obtain ⟨b, g1, -, g2, g3⟩ := (h3 a 19 ha hm List.not_mem_nil).2.2.2 rfl i hi
      exact ⟨b, g1, g2, g3⟩
theorem WD_put18 {Z : jZ} {I : jI} {a i b : Nat} (w : WD Z I) (ka : jk Z a 18) (kb : jk Z b 5) (hb : NH Z b) : WD (jpR Z a i (some b)) I := by
  have h0 : ¬ ((18 : Nat) = 0 ∧ i = 0) := by omega
  have no : ∀ x c, jk Z x c → c ≠ 18 → x ≠ a := fun x c hx hc e => by subst e; exact hc (hx.2.symm.trans ka.2)
  refine ⟨⟨fun x c hx j k o e => ?_, fun x hx j y e => ?_, fun x hx j hj => ?_, fun x hx j hj => ?_⟩, UQ_put w.2.1 ka kb.1 (Or.inl hb), ⟨w.2.2.1.1, fun x d j y hk e kk hs n => ?_⟩, fun x b0 b1 b2 b4 hk e0 e1 e2 e4 => ?_⟩
  · have hc : c ≠ 18 := fun h => by subst h; exact jsh_no (by decide) e
    obtain ⟨y, g1, g2⟩ := w.1.1 x c hx j k o e
    exact ⟨y, (jrR_ne (no x c hx hc)).trans g1, g2⟩
  · by_cases g : x = a ∧ j = i
    · obtain ⟨rfl, rfl⟩ := g
      rw [jrR_at] at e; cases e; exact kb
    · rw [jrR_o g] at e; exact w.1.2.1 x hx j y e
  · obtain ⟨y, g1, g2⟩ := w.1.2.2.1 x hx j hj
    exact ⟨y, (jrR_ne (no x 17 hx (by decide))).trans g1, g2⟩
  · obtain ⟨y, g1, g2⟩ := w.1.2.2.2 x hx j hj
    exact ⟨y, (jrR_ne (no x 19 hx (by decide))).trans g1, g2⟩
  · by_cases g : x = a ∧ j = i
    · obtain ⟨rfl, rfl⟩ := g
      rw [jrR_at] at e; cases e
      rw [show (jpR Z x j (some b)).2.1 b = 5 from kb.2] at kk
      cases kk
    · rw [jrR_o g] at e
      exact w.2.2.1.2 x d j y hk e kk hs n
  · have hx : x ≠ a := no x 7 hk (by decide)
    rw [jrR_ne hx] at e0 e1 e2 e4
    have r := w.2.2.2 x b0 b1 b2 b4 hk e0 e1 e2 e4
    exact ⟨r.1, r.2.1, by rw [capN_put ka h0]; exact r.2.2.1, r.2.2.2⟩
set_option maxHeartbeats 4000000 in
theorem s_X11_pilgrim {B : Nat × Nat} {T : Nat} {Z : jZ} {I : jI} {L : jL} (w : WD Z I) (bd : BUD B Z T) (v0 : Nat) (v1 v2 v3 v4 : Int32) (kv0 : jk Z v0 11) (ht : (I v0 4).toInt + (T : Int) = 6) {Q : Int32 → jZ → jI → jL → Prop}
    (hQ : ∀ (r : Int32) (Z' : jZ) (I' : jI) (L' : jL) (T' : Nat), WD Z' I' → BUD B Z' T' → (I' v0 4).toInt + (T' : Int) = 6 → jext Z Z' → jle Z Z' → Q r Z' I' L') : f_X11_pilgrim v0 v1 v2 v3 v4 Z I L Q := by
  have no : ∀ s0 : Int32, (s0 = 0 ∨ (1 ≤ v3.toInt ∧ v3.toInt ≤ 3)) → f_X11_pilgrim_b49 Q v0 v1 v2 v3 v4 s0 Z I L := by
    intro s0 hs0
    unfold f_X11_pilgrim_b49
    refine ⟨fun _ => hQ _ _ _ _ T w bd ht jext_rfl jle_rfl, fun c0 => ⟨fun c1 => ?_, fun _ => hQ _ _ _ _ T w bd ht jext_rfl jle_rfl⟩⟩
    have hl := hs0.resolve_left c0
    have t1 : (I v0 4).toInt < 6 := (i_lt rfl (show (6 : Int32).toInt = 6 from rfl)).mp c1
    have t0 : 0 ≤ (I v0 4).toInt ∧ (I v0 4).toInt ≤ 6 := w.fld 11 4 kv0 (by decide)
    intro b3 e3 q nq Z5 eZ5 I6 eI6 L7 eL7 b11 e11
    have hne : v0 ≠ q := fun e => nq (e ▸ kv0.1)
    obtain ⟨b8, f8, k8⟩ := sh_o w.1 kv0 (j := 2) (k := 8) rfl
    have : b11 = b8 := by
      rw [eZ5, jr_old hne, f8] at e11
      exact (Option.some.inj e11).symm
    subst this
    obtain ⟨b9, f9, k9, l9⟩ := sh_f w.1 kv0 (j := 3) (k := 18) (m := 6) rfl
    cases e3.symm.trans f9
    have c0' := CW_nw 5 0 (CW_start w.2) nq
    rw [← eZ5, ← eI6] at c0'
    refine cw_X5_init v1 v2 v3 v4 k8 ⟨by omega, hl.2⟩ I Z5 I6 L7 [] q 1 (0 + jcs 5 0) 0 _ c0' (by rw [eZ5]; exact jk_nw) List.not_mem_nil (fun j => by rw [eZ5]; exact jr_new) (fun j => by rw [eI6]; exact congrFun (va_up_self _ _ _) j) (fun Z13 I14 L15 c1 kq nhq _ x1 _ => ?_)
    have w1 : WD Z13 I14 := ⟨CW_SH c1 w.1, c1.2.2.2.1⟩
    have k3 : jk Z13 b3 18 := (c1.1 _ _ k9).1
    have kv : jk Z13 v0 11 := (c1.1 _ _ kv0).1
    have ev : I14 v0 = I v0 := (c1.2.1 v0 kv0.1).2
    refine ⟨vi_of rfl (by omega) (by omega), ?_⟩
    intro Z22 eZ22 I24 eI24
    have w2 : WD Z22 I14 := by rw [eZ22]; exact WD_put18 w1 k3 kq nhq
    have t2 : (I14 v0 4).toInt = (I v0 4).toInt := by rw [ev]
    have t3 : ((I14 v0 4) + (1 : Int32)).toInt = (I v0 4).toInt + 1 := (i_add rfl (show (1 : Int32).toInt = 1 from rfl) (by omega) (by omega)).trans (by omega)
    have kv' : jk Z22 v0 11 := by rw [eZ22]; exact kv
    have w3 : WD Z22 I24 := by rw [eI24]; exact WD_putF w2 11 4 kv' (by decide) (by decide) (by constructor <;> omega)
    refine ⟨w2.1, hQ _ _ _ _ (T - 1) w3 ?_ ?_ ?_ ?_⟩
    · obtain ⟨hb1, hb2⟩ := bd
      obtain ⟨g1, g2, g3⟩ := c1.2.2.2.2.2.1
      have hp : potc Z22 = potc Z13 := by rw [eZ22]; exact potc_put k3 (by omega) (by omega)
      have hc : jcz Z22 = jcz Z13 := by rw [eZ22]; rfl
      have hs : jsz Z22 = jsz Z13 := by rw [eZ22]; rfl
      have j5 : jcs 5 0 = 9 := rfl
      have hT : T = (T - 1) + 1 := by omega
      constructor
      · rw [hp, hc]; omega
      · rw [hp, hs]; omega
    · rw [eI24, jpI_at]; omega
    · have x2 : jext Z Z13 := c1.1
      rw [eZ22]; exact jext_trans x2 jext_putr
    · rw [eZ22]; exact jle_ext w.2.1 (jext_trans c1.1 jext_putr)
  unfold f_X11_pilgrim f_X11_pilgrim_b48
  refine ⟨fun _ => no 0 (Or.inl rfl), fun _ => ⟨fun _ => no 0 (Or.inl rfl), fun _ => ⟨fun _ => no 0 (Or.inl rfl), fun _ => ⟨fun _ => no 0 (Or.inl rfl), fun _ => ⟨fun _ => no 0 (Or.inl rfl), fun c3 => ⟨fun _ => no 0 (Or.inl rfl), fun c4 => ⟨fun _ => no 0 (Or.inl rfl), fun _ => ⟨fun _ => no 0 (Or.inl rfl), fun _ => no 1 (Or.inr ?_)⟩⟩⟩⟩⟩⟩⟩⟩
  have h3 := (not_congr (i_lt (x := v3) (y := 1) rfl (show (1 : Int32).toInt = 1 from rfl))).mp c3
  have h4 := (not_congr (i_lt (x := 3) (y := v3) (show (3 : Int32).toInt = 3 from rfl) rfl)).mp c4
  constructor <;> omega
