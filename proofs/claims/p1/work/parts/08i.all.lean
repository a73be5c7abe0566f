/-! ===== p1: all ===== -/
theorem fillS {b n : Nat} {v2 v3 : Int32} {Z : jZ} {I I0 : jI} {L : jL} {Q : jI → jL → Prop} (hlt : ¬ v3 ≤ v2) (hi : vp_in v2 (jlen Z b)) (hz : ∀ j, I b j = 0) (ho : ∀ a, a ≠ b → I a = I0 a) (h : ∀ I', (∀ j, I' b j = 0) → (∀ a, a ≠ b → I' a = I0 a) → f_J7_fill_53178_L5 Z Q n b 0 (v2 + 1) v3 I' L) : f_J7_fill_53178_L5 Z Q (n + 1) b 0 v2 v3 I L := by
  refine ⟨fun e => absurd e hlt, fun _ => ⟨hi, fun I3 e3 x ex => ?_⟩⟩
  rw [ex]
  refine h I3 (fun j => ?_) (fun a ha => ?_)
  · rw [e3]
    show va_up I b (upd (I b) v2.toNatClampNeg 0) b j = 0
    rw [va_up_self]
    by_cases q : j = v2.toNatClampNeg
    · subst q; simp [upd]
    · simp [upd, q, hz j]
  · rw [e3, jpI_off ha]; exact ho a ha
theorem fill3 {b : Nat} {Z : jZ} {I : jI} {L : jL} {Q : jI → jL → Prop} (l : jlen Z b = 3) (hz : ∀ j, I b j = 0) (h : ∀ I', (∀ j, I' b j = 0) → (∀ a, a ≠ b → I' a = I a) → Q I' L) : f_J7_fill_53178 b 0 Z I L Q := by
  unfold f_J7_fill_53178
  intro x ex
  have e3 : x = 3 := by rw [ex, l]; decide
  subst e3
  refine ⟨4, ?_⟩
  refine fillS (by decide) (by rw [l]; exact vp_in_lit (by decide)) hz (fun _ _ => rfl) (fun I1 z1 o1 => ?_)
  refine fillS (by decide) (by rw [l]; exact vp_in_lit (by decide)) z1 o1 (fun I2 z2 o2 => ?_)
  refine fillS (by decide) (by rw [l]; exact vp_in_lit (by decide)) z2 o2 (fun I3 z3 o3 => ?_)
  exact ⟨fun _ => h I3 z3 o3, fun e => absurd (by decide) e⟩
/-- no pilgrim: nothing to sum up -/
theorem sumUp0 {v0 b : Nat} {w : Int32} {Z : jZ} {I : jI} {L : jL} {Q : jZ → jI → jL → Prop} (l : jlen Z b = 3) (hz : ∀ j, I b j = 0) (h4 : I v0 4 = 0) (hne : v0 ≠ b) (h : ∀ I', (∀ j, I' b j = 0) → (∀ a, a ≠ b → I' a = I a) → Q Z I' L) : f_X11_sumUp v0 w b Z I L Q := by
  unfold f_X11_sumUp
  refine fill3 l hz (fun I' z o => ⟨1, fun _ => h I' z o, fun e => absurd (show I' v0 4 ≤ 0 by rw [o v0 hne, h4]; decide) e⟩)
theorem tellM {v0 : Nat} {x : Int64} {c : Int32} {Z : jZ} {I : jI} {L : jL} {Q : jI → jL → Prop} (h1 : I v0 16 = c) (hc : ¬ (26 : Int32) ≤ c) (hi : vp_in c 26) (h : ∀ I' L', I' v0 16 = c + 1 → (∀ a, a ≠ v0 → I' a = I a) → Q I' L') : f_X11_tellMore v0 x Z I L Q := by
  unfold f_X11_tellMore
  rw [h1]
  exact fun b _ => ⟨fun e => absurd e hc, fun _ b3 _ => ⟨hi, fun L5 _ I6 e6 => h I6 L5 (by rw [e6, jpI_at]) (fun a ha => by rw [e6]; exact jpI_off ha)⟩⟩
theorem tell2 {v0 : Nat} {x y : Int64} {Z : jZ} {I : jI} {L : jL} {Q : jI → jL → Prop} (h : ∀ I' L', (∀ a, a ≠ v0 → I' a = I a) → Q I' L') : f_X11_tellTwo v0 x y Z I L Q := by
  unfold f_X11_tellTwo f_X11_tellOne f_X11_tellNothing
  intro I1 e1
  refine tellM (c := 0) (by rw [e1, jpI_at]) (by decide) (vp_in_lit (by decide)) (fun I2 L2 z2 o2 => ?_)
  refine tellM (c := 0 + 1) z2 (by decide) (vp_in_lit (by decide)) (fun I3 L3 _ o3 => ?_)
  exact h I3 L3 (fun a ha => by rw [o3 a ha, o2 a ha, e1]; exact jpI_off ha)
theorem x_all {v0 : Nat} {Z : jZ} {I : jI} {L : jL} {Q : Int32 → jZ → jI → jL → Prop} (h0 : NEW Z I L) (k : jk Z v0 11) (h : ∀ I' L', fr12 Z I I' → Q 0 Z I' L') : f_X11_all v0 Z I L Q := by
  unfold f_X11_all
  intro b1 e1
  obtain ⟨b, e, k14, l3⟩ := sh_f h0.1 k (j := 11) (k := 14) (m := 3) rfl
  rw [e1] at e
  cases e
  have hne : v0 ≠ b1 := fun e => by subst e; exact absurd (jk_one k k14) (by decide)
  refine sumUp0 l3 (fun j => ((h0.2 b1 14 k14).1 j).trans (by simp [jz])) ((h0.x k).1) hne (fun I4 z4 o4 b8 e8 b9 e9 => ?_)
  refine tell2 (fun I5 L5 o5 b15 e15 => ?_)
  rw [e1] at e15
  cases e15
  rw [o5 b1 (Ne.symm hne), z4]
  exact h I5 L5 (fun a ka => by
    rw [o5 a (fun e => by subst e; exact absurd (jk_one ka k) (by decide)), o4 a (fun e => by subst e; exact absurd (jk_one ka k14) (by decide))])
theorem jpI_ne {I : jI} {a j j' : Nat} {x : Int32} (h : j' ≠ j) : jpI I a j x a j' = I a j' := by
  show va_up I a (upd (I a) j x) a j' = I a j'
  rw [va_up_self]
  simp [upd, h]
theorem mtell {v0 : Nat} {x : Int64} {c : Int32} {Z : jZ} {I : jI} {L : jL} {Q : jI → jL → Prop} (h1 : I v0 21 = c) (hi : vp_in c 40) (h : ∀ I' L', I' v0 21 = c + 1 → (∀ j, j ≠ 21 → I' v0 j = I v0 j) → Q I' L') : f_X12_tell v0 x Z I L Q := by
  unfold f_X12_tell
  rw [h1]
  exact fun b _ => ⟨hi, fun L3 _ I4 e4 => h I4 L3 (by rw [e4, jpI_at]) (fun j hj => by rw [e4]; exact jpI_ne hj)⟩
theorem findAll0 {v0 : Nat} {Z : jZ} {I : jI} {L : jL} {Q : jZ → jI → jL → Prop} (h8 : I v0 8 = 0) (h : ∀ I', I' v0 48 = 0 → I' v0 49 = 0 → I' v0 50 = 0 → (∀ a, a ≠ v0 → I' a = I a) → Q Z I' L) : f_X12_findAll v0 Z I L Q := by
  unfold f_X12_findAll
  intro I1 e1 I2 e2 I3 e3
  have q8 : I3 v0 8 = 0 := by rw [e3, jpI_ne (by decide), e2, jpI_ne (by decide), e1, jpI_ne (by decide), h8]
  refine ⟨1, fun _ => h I3 ?_ ?_ ?_ (fun a ha => by rw [e3, jpI_off ha, e2, jpI_off ha, e1, jpI_off ha]), fun e => absurd (show I3 v0 8 ≤ 0 by rw [q8]; decide) e⟩
  · rw [e3, jpI_ne (by decide), e2, jpI_ne (by decide), e1, jpI_at]
  · rw [e3, jpI_ne (by decide), e2, jpI_at]
  · rw [e3, jpI_at]
theorem m_all {v0 : Nat} {Z : jZ} {I : jI} {L : jL} {Q : Int32 → jZ → jI → jL → Prop} (h0 : MN I v0) (h : ∀ I L, Q 0 Z I L) : f_X12_all v0 Z I L Q := by
  unfold f_X12_all
  intro I1 e1
  have h0 : MN I1 v0 := by rw [e1]; exact h0.put
  refine findAll0 (h0 8 (by decide)) (fun I4 _ z49 _ _ I8 e8 => ?_)
  refine mtell (c := 0) (by rw [e8, jpI_at]) (vp_in_lit (by decide)) (fun I9 L9 z9 o9 => ?_)
  refine mtell (c := 0 + 1) z9 (vp_in_lit (by decide)) (fun I10 L10 _ o10 => ?_)
  have z : I10 v0 49 = 0 := by rw [o10 49 (by decide), o9 49 (by decide), e8, jpI_ne (by decide), z49]
  rw [z]
  exact h I10 L10
section P1CASES7
variable {xs : Nat → Int32} {K : Nat → Nat → Nat → Int32 → jZ → jI → jL → Prop} {v1 v2 v3 : Nat} {Z : jZ} {I : jI} {L : jL}
theorem tc_all (hN : NEW Z I L) (k1 : jk Z v1 11) (k2 : jk Z v2 12) (hK : ∀ Z I L, K v1 v2 v3 6 Z I L) : f_L_law_b1188 xs 6 K v1 v2 v3 0 Z I L := by
  unfold f_L_law_b1188
  exact x_all hN k1 (fun I' L' e => m_all ((hN.m k2).of k2 e) (fun I L => ⟨fun _ => tc_end_ hK _ _ _, fun e => absurd rfl e⟩))
end P1CASES7
