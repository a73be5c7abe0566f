/-! ===== p1: dies ===== -/
theorem and1 (x : Int32) : x &&& 1 = 0 ∨ x &&& 1 = 1 := by
  have h : ∀ b : BitVec 32, b &&& 1#32 = 0#32 ∨ b &&& 1#32 = 1#32 := by
    intro b
    have e : (b &&& 1#32).toNat = b.toNat % 2 := by
      simp [BitVec.toNat_and, Nat.and_one_is_mod]
    rcases Nat.mod_two_eq_zero_or_one b.toNat with q | q
    · left
      apply BitVec.eq_of_toNat_eq
      rw [e, q]; rfl
    · right
      apply BitVec.eq_of_toNat_eq
      rw [e, q]; rfl
  rcases h x.toBitVec with q | q
  · left
    apply Int32.toBitVec_inj.mp
    exact q
  · right
    apply Int32.toBitVec_inj.mp
    exact q
theorem share0 {v0 : Nat} {a f : Int32} {Z : jZ} {I : jI} {L : jL} {Q : Int32 → jI → jL → Prop} (hz : ∀ b j, jr Z v0 0 = some b → I b j = 0) (h : Q 0 I L) : f_X4_shareOf v0 a f Z I L Q := by
  unfold f_X4_shareOf
  exact ⟨fun _ => h, fun c => ⟨fun _ => h, fun d => famX ⟨fun _ => h, fun g b e => ⟨in192v (in_of (N := 24) rfl c d) (famIn g), by rw [hz b _ e]; exact h⟩⟩⟩⟩
theorem sumS {v0 n : Nat} {f v3 : Int32} {Z : jZ} {I : jI} {L : jL} {Q : Int32 → jI → jL → Prop} (hlt : ¬ (24 : Int32) ≤ v3) (hz : ∀ b j, jr Z v0 0 = some b → I b j = 0) (h : f_X4_sumOf_L4 Z Q n v0 f 0 (v3 + 1) I L) : f_X4_sumOf_L4 Z Q (n + 1) v0 f 0 v3 I L := by
  refine ⟨fun e => absurd e hlt, fun _ => share0 hz (fun x8 e8 x9 e9 => ?_)⟩
  have z : x8 = 0 := by rw [e8]; decide
  rw [z, e9]
  exact h
theorem sumOf0 {v0 : Nat} {f : Int32} {Z : jZ} {I : jI} {L : jL} {Q : Int32 → jI → jL → Prop} (hz : ∀ b j, jr Z v0 0 = some b → I b j = 0) (h : Q 0 I L) : f_X4_sumOf v0 f Z I L Q := by
  unfold f_X4_sumOf
  refine ⟨25, ?_⟩
  iterate 24 refine sumS (by decide) hz ?_
  exact ⟨fun _ => h, fun e => absurd (by decide) e⟩
def di (v w : Int32) : Int32 := if faml v = 0 then -1 else if w < 1 then -1 else if 255 < w then -1 else if ((w >>> (v &&& 31)) &&& (1 : Int32)) = 0 then 0 else -1
theorem x_dies {v1 v2 : Int32} {v0 : Nat} {Z : jZ} {I : jI} {L : jL} {Q : Int32 → jI → jL → Prop} (h0 : NEW Z I L) (k : jk Z v0 11) (h : Q (di v1 v2) I L) : f_X11_dies v0 v1 v2 Z I L Q := by
  unfold f_X11_dies
  refine famX ⟨fun c => by simpa [di, c] using h, fun c => ⟨fun d => by simpa [di, c, d] using h, fun d => ⟨fun e => by simpa [di, c, d, e] using h, fun e => ⟨fun g b21 e21 b22 e22 => ?_, fun g => by simpa [di, c, d, e, g] using h⟩⟩⟩⟩
  obtain ⟨b, q, k8⟩ := sh_o h0.1 k (j := 2) (k := 8) rfl
  rw [e21] at q
  cases q
  obtain ⟨b, q, k4⟩ := sh_o h0.1 k8 (j := 4) (k := 4) rfl
  rw [e22] at q
  cases q
  refine sumOf0 (fun b j eb => ?_) ⟨fun _ => by simpa [di, c, d, e, g] using h, fun q => absurd (by decide) q⟩
  obtain ⟨b', q, k14, -⟩ := sh_f h0.1 k4 (j := 0) (k := 14) (m := 192) rfl
  rw [eb] at q
  cases q
  exact ((h0.2 b 14 k14).1 j).trans (by simp [jz])
theorem bitsA {v : Int32} {Z : jZ} {I : jI} {L : jL} {Q : Int32 → jI → jL → Prop} (h : ∀ r, Q r I L) : f_J6_bitCount_0f7a4 v Z I L Q := by
  unfold f_J6_bitCount_0f7a4
  intro x1 _ x2 _ x3 _ x4 _ x5 _
  exact h _
set_option maxRecDepth 100000 in
theorem lt192 : ∀ i < 192, ¬ (192 : Int32) ≤ nI i := by decide
theorem diesL {v0 : Nat} {v1 v2 : Int32} {Z : jZ} {L : jL} {Q : Int32 → jI → jL → Prop} (hZ : SH Z) (k : jk Z v0 12) (h : ∀ I, Q 0 I L) : ∀ (m i : Nat) (I : jI), i + m = 192 → I v0 0 = 0 → f_X12_dies_L35 Z Q (m + 1) v0 v1 v2 (nI i) I L := by
  intro m
  induction m with
  | zero =>
    intro i I hi z b eb
    have e : i = 192 := by omega
    subst e
    refine ⟨fun _ => bitsA (fun r => ⟨1, fun _ => ⟨fun _ => h I, fun q => absurd (by decide) q⟩, fun q => absurd (show I v0 0 ≤ 0 by rw [z]; decide) q⟩), fun q => absurd (by decide) q⟩
  | succ m ih =>
    intro i I hi z b eb
    have hlt : i < 192 := by omega
    refine ⟨fun q => absurd q (lt192 i hlt), fun _ b43 e43 b44 e44 => ⟨vp_in_nI hlt (by decide), vp_in_nI hlt (by decide), fun I47 e47 x ex => ?_⟩⟩
    obtain ⟨b', q, k14, -⟩ := sh_f hZ k (j := 54) (k := 14) (m := 192) rfl
    rw [e43] at q
    cases q
    have hne : v0 ≠ b43 := fun e => by subst e; exact absurd (jk_one k k14) (by decide)
    rw [ex, nI_1]
    exact ih (i + 1) I47 (by omega) (by rw [e47, jpI_off hne]; exact z)
theorem m_dies {v1 v2 : Int32} {v0 : Nat} {Z : jZ} {I : jI} {L : jL} {Q : Int32 → jI → jL → Prop} (hZ : SH Z) (k : jk Z v0 12) (h0 : MN I v0) (h : ∀ I, Q (di v1 v2) I L) : f_X12_dies v0 v1 v2 Z I L Q := by
  unfold f_X12_dies
  intro I1 e1
  have h0 : MN I1 v0 := by rw [e1]; exact h0.put
  refine famM ⟨fun c => by simpa [di, c] using h I1, fun c => ?_⟩
  unfold f_X12_in
  refine ⟨fun d => ⟨fun _ => by simpa [di, c, d] using h I1, fun q => absurd rfl q⟩, fun d => ⟨fun e => ⟨fun _ => by simpa [di, c, d, e] using h I1, fun q => absurd rfl q⟩, fun e => ⟨fun q => absurd q (by decide), fun _ => ?_⟩⟩⟩
  unfold f_X12_has
  refine ⟨fun g => ⟨fun _ => ⟨193, ?_⟩, fun q => absurd rfl q⟩, fun g => ⟨fun q => absurd q (by decide), fun _ => ?_⟩⟩
  · have g0 : ((v2 >>> (v1 &&& 31)) &&& (1 : Int32)) = 0 := (and1 _).elim id (fun q => absurd q g)
    exact diesL hZ k (fun I => by simpa [di, c, d, e, g0] using h I) 192 0 I1 rfl (h0 0 (by decide))
  · simpa [di, c, d, e, g] using h I1
section P1CASES11
variable {xs : Nat → Int32} {K : Nat → Nat → Nat → Int32 → jZ → jI → jL → Prop} {v1 v2 v3 : Nat} {Z : jZ} {I : jI} {L : jL}
theorem tc_dies (hN : NEW Z I L) (k1 : jk Z v1 11) (k2 : jk Z v2 12) (hK : ∀ Z I L, K v1 v2 v3 6 Z I L) : f_L_law_b1536 xs 6 K v1 v2 v3 0 Z I L := by
  unfold f_L_law_b1536
  exact ⟨vi1, vi2, x_dies hN k1 ⟨vi1, vi2, m_dies hN.1 k2 (hN.m k2) (fun I => ⟨fun _ => tc_end_ hK _ _ _, fun e => absurd rfl e⟩)⟩⟩
end P1CASES11
