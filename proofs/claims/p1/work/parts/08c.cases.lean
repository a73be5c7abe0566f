theorem vi {i : Int32} {n : Nat} (h : vp_in i n) : vp_in i n := h
theorem vi1 : vp_in ((0 : Int32) + (1 : Int32)) 6 := by unfold vp_in; decide
theorem vi2 : vp_in ((0 : Int32) + (2 : Int32)) 6 := by unfold vp_in; decide
theorem vi3 : vp_in ((0 : Int32) + (3 : Int32)) 6 := by unfold vp_in; decide
theorem vi4 : vp_in ((0 : Int32) + (4 : Int32)) 6 := by unfold vp_in; decide
theorem vi5 : vp_in ((0 : Int32) + (5 : Int32)) 6 := by unfold vp_in; decide
theorem NEW.x {Z : jZ} {I : jI} {L : jL} {v : Nat} (h : NEW Z I L) (k : jk Z v 11) : XN Z I v := by
  have h1 : ∀ j, I v j = 0 := fun j => ((h.2 v 11 k).1 j).trans (by simp [jz])
  refine ⟨h1 4, fun b e => ?_, h1⟩
  obtain ⟨b', e', k'⟩ := sh_o h.1 k (j := 2) (k := 8) rfl
  rw [e] at e'
  cases e'
  exact ((h.2 b 8 k').1 9).trans (by simp [jz])
theorem NEW.m {Z : jZ} {I : jI} {L : jL} {v : Nat} (h : NEW Z I L) (k : jk Z v 12) : MN I v := fun j _ => (h.2 v 12 k).1 j
theorem l_step {v1 v2 : Int32} {v0 v3 : Nat} {Z : jZ} {I : jI} {L : jL} {Q : Int32 → jI → jL → Prop} (h0 : XN Z I v0) (h : Q 1 I L) : f_L_step v0 v1 v2 v3 Z I L Q := by
  unfold f_L_step
  exact x_step h0 h
theorem l_of {v1 v2 : Int32} {v0 v3 : Nat} {Z : jZ} {I : jI} {L : jL} {Q : Int32 → jI → jL → Prop} (h0 : XN Z I v0) (h : Q 1 I L) : f_L_of v0 v1 v2 v3 Z I L Q := by
  unfold f_L_of
  exact x_of h0 h
theorem l_row {v1 : Int32} {v0 v3 : Nat} {Z : jZ} {I : jI} {L : jL} {Q : Int32 → jI → jL → Prop} (h0 : XN Z I v0) (h : Q 1 I L) : f_L_row v0 v1 v3 Z I L Q := by
  unfold f_L_row
  exact x_row h0 h
theorem thrown1 {v0 : Nat} {Z : jZ} {I : jI} {L : jL} {Q : Int32 → jI → jL → Prop} (e : I v0 22 = 1) (h : Q 1 I L) : f_X12_thrown v0 Z I L Q := by
  unfold f_X12_thrown
  rw [e]
  exact h
section P1CASES
variable {xs : Nat → Int32} {K : Nat → Nat → Nat → Int32 → jZ → jI → jL → Prop} {v1 v2 v3 : Nat} {Z : jZ} {I : jI} {L : jL}
theorem tc_end_ (hK : ∀ Z I L, K v1 v2 v3 6 Z I L) (Z : jZ) (I : jI) (L : jL) : f_L_law_b1816 xs 6 K v1 v2 v3 0 Z I L := by
  unfold f_L_law_b1816
  intro x e
  rw [e]
  exact hK _ _ _
theorem tc_step (hN : NEW Z I L) (k1 : jk Z v1 11) (k2 : jk Z v2 12) (hK : ∀ Z I L, K v1 v2 v3 6 Z I L) : f_L_law_b332 xs 6 K v1 v2 v3 0 Z I L := by
  unfold f_L_law_b332
  exact ⟨vi1, ⟨vi2, l_step (hN.x k1) ⟨vi1, ⟨vi2, m_step (hN.m k2) (fun r I e => thrown1 e ⟨fun _ => ⟨fun _ => by first | exact tc_end_ hK _ _ _ | (unfold f_L_law_b397; exact tc_end_ hK _ _ _), fun e => absurd e (by decide)⟩, fun e => absurd rfl e⟩)⟩⟩⟩⟩
theorem tc_set (hN : NEW Z I L) (k1 : jk Z v1 11) (k2 : jk Z v2 12) (hK : ∀ Z I L, K v1 v2 v3 6 Z I L) : f_L_law_b400 xs 6 K v1 v2 v3 0 Z I L := by
  unfold f_L_law_b400
  exact ⟨vi1, ⟨vi2, ⟨vi3, x_set (hN.x k1) ⟨vi1, ⟨vi2, ⟨vi3, m_set (hN.m k2) (fun I => ⟨fun _ => tc_end_ hK _ _ _, fun e => absurd rfl e⟩)⟩⟩⟩⟩⟩⟩
theorem tc_vow (hN : NEW Z I L) (k1 : jk Z v1 11) (k2 : jk Z v2 12) (hK : ∀ Z I L, K v1 v2 v3 6 Z I L) : f_L_law_b661 xs 6 K v1 v2 v3 0 Z I L := by
  unfold f_L_law_b661
  exact ⟨vi1, ⟨vi2, x_vow (hN.x k1) ⟨vi1, ⟨vi2, m_vow (hN.m k2) (fun I => ⟨fun _ => tc_end_ hK _ _ _, fun e => absurd rfl e⟩)⟩⟩⟩⟩
theorem tc_of (hN : NEW Z I L) (k1 : jk Z v1 11) (k2 : jk Z v2 12) (hK : ∀ Z I L, K v1 v2 v3 6 Z I L) : f_L_law_b698 xs 6 K v1 v2 v3 0 Z I L := by
  unfold f_L_law_b698
  exact ⟨vi1, ⟨vi2, l_of (hN.x k1) ⟨vi1, ⟨vi2, m_of (hN.m k2) (fun r I e => thrown1 e ⟨fun _ => ⟨fun _ => by first | exact tc_end_ hK _ _ _ | (unfold f_L_law_b763; exact tc_end_ hK _ _ _), fun e => absurd e (by decide)⟩, fun e => absurd rfl e⟩)⟩⟩⟩⟩
theorem tc_costs (hN : NEW Z I L) (k1 : jk Z v1 11) (k2 : jk Z v2 12) (hK : ∀ Z I L, K v1 v2 v3 6 Z I L) : f_L_law_b766 xs 6 K v1 v2 v3 0 Z I L := by
  unfold f_L_law_b766
  exact ⟨vi1, ⟨vi2, x_costs (hN.x k1) ⟨vi1, ⟨vi2, m_costs (hN.m k2) (fun I => ⟨fun _ => tc_end_ hK _ _ _, fun e => absurd rfl e⟩)⟩⟩⟩⟩
theorem tc_tread (hN : NEW Z I L) (k1 : jk Z v1 11) (k2 : jk Z v2 12) (hK : ∀ Z I L, K v1 v2 v3 6 Z I L) : f_L_law_b803 xs 6 K v1 v2 v3 0 Z I L := by
  unfold f_L_law_b803
  exact ⟨vi1, ⟨vi2, x_tread (hN.x k1) ⟨vi1, ⟨vi2, m_tread (hN.m k2) (fun I => ⟨fun _ => tc_end_ hK _ _ _, fun e => absurd rfl e⟩)⟩⟩⟩⟩
theorem tc_rests (hN : NEW Z I L) (k1 : jk Z v1 11) (k2 : jk Z v2 12) (hK : ∀ Z I L, K v1 v2 v3 6 Z I L) : f_L_law_b840 xs 6 K v1 v2 v3 0 Z I L := by
  unfold f_L_law_b840
  exact ⟨vi1, ⟨vi2, x_rests (hN.x k1) ⟨vi1, ⟨vi2, m_rests (hN.m k2) (fun I => ⟨fun _ => tc_end_ hK _ _ _, fun e => absurd rfl e⟩)⟩⟩⟩⟩
theorem tc_returns (hN : NEW Z I L) (k1 : jk Z v1 11) (k2 : jk Z v2 12) (hK : ∀ Z I L, K v1 v2 v3 6 Z I L) : f_L_law_b877 xs 6 K v1 v2 v3 0 Z I L := by
  unfold f_L_law_b877
  exact ⟨vi1, x_returns (hN.x k1) ⟨vi1, m_returns (hN.m k2) (fun I => ⟨fun _ => tc_end_ hK _ _ _, fun e => absurd rfl e⟩)⟩⟩
theorem tc_climb (hN : NEW Z I L) (k1 : jk Z v1 11) (k2 : jk Z v2 12) (hK : ∀ Z I L, K v1 v2 v3 6 Z I L) : f_L_law_b927 xs 6 K v1 v2 v3 0 Z I L := by
  unfold f_L_law_b927
  exact ⟨vi1, x_climb (hN.x k1) ⟨vi1, m_climb (hN.m k2) (fun I => ⟨fun _ => tc_end_ hK _ _ _, fun e => absurd rfl e⟩)⟩⟩
theorem tc_knees (hN : NEW Z I L) (k1 : jk Z v1 11) (k2 : jk Z v2 12) (hK : ∀ Z I L, K v1 v2 v3 6 Z I L) : f_L_law_b952 xs 6 K v1 v2 v3 0 Z I L := by
  unfold f_L_law_b952
  exact ⟨vi1, x_knees (hN.x k1) ⟨vi1, m_knees (hN.m k2) (fun I => ⟨fun _ => tc_end_ hK _ _ _, fun e => absurd rfl e⟩)⟩⟩
theorem tc_ways (hN : NEW Z I L) (k1 : jk Z v1 11) (k2 : jk Z v2 12) (hK : ∀ Z I L, K v1 v2 v3 6 Z I L) : f_L_law_b977 xs 6 K v1 v2 v3 0 Z I L := by
  unfold f_L_law_b977
  exact ⟨vi1, ⟨vi2, x_ways (hN.x k1) ⟨vi1, ⟨vi2, m_ways (hN.m k2) (fun I => ⟨fun _ => tc_end_ hK _ _ _, fun e => absurd (by decide) e⟩)⟩⟩⟩⟩
theorem tc_trod (hN : NEW Z I L) (k1 : jk Z v1 11) (k2 : jk Z v2 12) (hK : ∀ Z I L, K v1 v2 v3 6 Z I L) : f_L_law_b1015 xs 6 K v1 v2 v3 0 Z I L := by
  unfold f_L_law_b1015
  exact ⟨vi1, ⟨vi2, ⟨vi3, x_trod (hN.x k1) ⟨vi1, ⟨vi2, ⟨vi3, m_trod (hN.m k2) (fun I => ⟨fun _ => tc_end_ hK _ _ _, fun e => absurd rfl e⟩)⟩⟩⟩⟩⟩⟩
theorem tc_who (hN : NEW Z I L) (k1 : jk Z v1 11) (k2 : jk Z v2 12) (hK : ∀ Z I L, K v1 v2 v3 6 Z I L) : f_L_law_b1064 xs 6 K v1 v2 v3 0 Z I L := by
  unfold f_L_law_b1064
  exact ⟨vi1, ⟨vi2, x_who (hN.x k1) ⟨vi1, ⟨vi2, m_who (hN.m k2) (fun I => ⟨fun _ => tc_end_ hK _ _ _, fun e => absurd rfl e⟩)⟩⟩⟩⟩
theorem tc_next (hN : NEW Z I L) (k1 : jk Z v1 11) (k2 : jk Z v2 12) (hK : ∀ Z I L, K v1 v2 v3 6 Z I L) : f_L_law_b1101 xs 6 K v1 v2 v3 0 Z I L := by
  unfold f_L_law_b1101
  exact ⟨vi1, ⟨vi2, x_next (hN.x k1) ⟨vi1, ⟨vi2, m_next (hN.m k2) (fun I => ⟨fun _ => tc_end_ hK _ _ _, fun e => absurd rfl e⟩)⟩⟩⟩⟩
theorem tc_bears (hN : NEW Z I L) (k1 : jk Z v1 11) (k2 : jk Z v2 12) (hK : ∀ Z I L, K v1 v2 v3 6 Z I L) : f_L_law_b1138 xs 6 K v1 v2 v3 0 Z I L := by
  unfold f_L_law_b1138
  exact ⟨vi1, x_bears (hN.x k1) ⟨vi1, m_bears (hN.m k2) (fun I => ⟨fun _ => tc_end_ hK _ _ _, fun e => absurd rfl e⟩)⟩⟩
theorem tc_breaks (hN : NEW Z I L) (k1 : jk Z v1 11) (k2 : jk Z v2 12) (hK : ∀ Z I L, K v1 v2 v3 6 Z I L) : f_L_law_b1163 xs 6 K v1 v2 v3 0 Z I L := by
  unfold f_L_law_b1163
  exact ⟨vi1, x_breaks (hN.x k1) ⟨vi1, m_breaks (hN.m k2) (fun I => ⟨fun _ => tc_end_ hK _ _ _, fun e => absurd rfl e⟩)⟩⟩
theorem tc_whole (hN : NEW Z I L) (k1 : jk Z v1 11) (k2 : jk Z v2 12) (hK : ∀ Z I L, K v1 v2 v3 6 Z I L) : f_L_law_b1201 xs 6 K v1 v2 v3 0 Z I L := by
  unfold f_L_law_b1201
  exact ⟨vi1, x_whole (hN.x k1) ⟨vi1, m_whole (hN.m k2) (fun I => ⟨fun _ => tc_end_ hK _ _ _, fun e => absurd rfl e⟩)⟩⟩
theorem tc_mends (hN : NEW Z I L) (k1 : jk Z v1 11) (k2 : jk Z v2 12) (hK : ∀ Z I L, K v1 v2 v3 6 Z I L) : f_L_law_b1226 xs 6 K v1 v2 v3 0 Z I L := by
  unfold f_L_law_b1226
  exact ⟨vi1, x_mends (hN.x k1) ⟨vi1, m_mends (hN.m k2) (fun I => ⟨fun _ => tc_end_ hK _ _ _, fun e => absurd rfl e⟩)⟩⟩
theorem tc_shut (hN : NEW Z I L) (k1 : jk Z v1 11) (k2 : jk Z v2 12) (hK : ∀ Z I L, K v1 v2 v3 6 Z I L) : f_L_law_b1251 xs 6 K v1 v2 v3 0 Z I L := by
  unfold f_L_law_b1251
  exact ⟨vi1, x_shut (hN.x k1) ⟨vi1, m_shut (hN.m k2) (fun I => ⟨fun _ => tc_end_ hK _ _ _, fun e => absurd rfl e⟩)⟩⟩
theorem tc_toll (hN : NEW Z I L) (k1 : jk Z v1 11) (k2 : jk Z v2 12) (hK : ∀ Z I L, K v1 v2 v3 6 Z I L) : f_L_law_b1276 xs 6 K v1 v2 v3 0 Z I L := by
  unfold f_L_law_b1276
  exact ⟨vi1, x_toll (hN.x k1) ⟨vi1, m_toll (hN.m k2) (fun I => ⟨fun _ => tc_end_ hK _ _ _, fun e => absurd rfl e⟩)⟩⟩
theorem tc_lamps (hN : NEW Z I L) (k1 : jk Z v1 11) (k2 : jk Z v2 12) (hK : ∀ Z I L, K v1 v2 v3 6 Z I L) : f_L_law_b1314 xs 6 K v1 v2 v3 0 Z I L := by
  unfold f_L_law_b1314
  exact ⟨vi1, x_lamps (hN.x k1) ⟨vi1, m_lamps (hN.m k2) (fun I => ⟨fun _ => tc_end_ hK _ _ _, fun e => absurd rfl e⟩)⟩⟩
theorem tc_would (hN : NEW Z I L) (k1 : jk Z v1 11) (k2 : jk Z v2 12) (hK : ∀ Z I L, K v1 v2 v3 6 Z I L) : f_L_law_b1339 xs 6 K v1 v2 v3 0 Z I L := by
  unfold f_L_law_b1339
  exact ⟨vi1, ⟨vi2, x_would (hN.x k1) ⟨vi1, ⟨vi2, m_would (hN.m k2) (fun I => ⟨fun _ => tc_end_ hK _ _ _, fun e => absurd rfl e⟩)⟩⟩⟩⟩
theorem tc_best (hN : NEW Z I L) (k1 : jk Z v1 11) (k2 : jk Z v2 12) (hK : ∀ Z I L, K v1 v2 v3 6 Z I L) : f_L_law_b1376 xs 6 K v1 v2 v3 0 Z I L := by
  unfold f_L_law_b1376
  exact ⟨vi1, x_best (hN.x k1) ⟨vi1, m_best (hN.m k2) (fun I => ⟨fun _ => tc_end_ hK _ _ _, fun e => absurd rfl e⟩)⟩⟩
theorem tc_market (hN : NEW Z I L) (k1 : jk Z v1 11) (k2 : jk Z v2 12) (hK : ∀ Z I L, K v1 v2 v3 6 Z I L) : f_L_law_b1401 xs 6 K v1 v2 v3 0 Z I L := by
  unfold f_L_law_b1401
  exact ⟨vi1, x_market (hN.x k1) ⟨vi1, m_market (hN.m k2) (fun I => ⟨fun _ => tc_end_ hK _ _ _, fun e => absurd rfl e⟩)⟩⟩
theorem tc_parts (hN : NEW Z I L) (k1 : jk Z v1 11) (k2 : jk Z v2 12) (hK : ∀ Z I L, K v1 v2 v3 6 Z I L) : f_L_law_b1426 xs 6 K v1 v2 v3 0 Z I L := by
  unfold f_L_law_b1426
  exact ⟨vi1, ⟨vi2, x_parts (hN.x k1) ⟨vi1, ⟨vi2, m_parts (hN.m k2) (fun I => ⟨fun _ => tc_end_ hK _ _ _, fun e => absurd rfl e⟩)⟩⟩⟩⟩
theorem tc_sells (hN : NEW Z I L) (k1 : jk Z v1 11) (k2 : jk Z v2 12) (hK : ∀ Z I L, K v1 v2 v3 6 Z I L) : f_L_law_b1463 xs 6 K v1 v2 v3 0 Z I L := by
  unfold f_L_law_b1463
  exact ⟨vi1, ⟨vi2, ⟨vi3, ⟨vi4, ⟨vi5, x_sells (hN.x k1) ⟨vi1, ⟨vi2, ⟨vi3, ⟨vi4, ⟨vi5, m_sells (hN.m k2) (fun I => ⟨fun _ => tc_end_ hK _ _ _, fun e => absurd rfl e⟩)⟩⟩⟩⟩⟩⟩⟩⟩⟩⟩
theorem tc_rail (hN : NEW Z I L) (k1 : jk Z v1 11) (k2 : jk Z v2 12) (hK : ∀ Z I L, K v1 v2 v3 6 Z I L) : f_L_law_b1586 xs 6 K v1 v2 v3 0 Z I L := by
  unfold f_L_law_b1586
  exact ⟨vi1, x_rail (hN.x k1) ⟨vi1, m_rail (hN.m k2) (fun I => ⟨fun _ => tc_end_ hK _ _ _, fun e => absurd rfl e⟩)⟩⟩
theorem tc_rules (hN : NEW Z I L) (k1 : jk Z v1 11) (k2 : jk Z v2 12) (hK : ∀ Z I L, K v1 v2 v3 6 Z I L) : f_L_law_b1611 xs 6 K v1 v2 v3 0 Z I L := by
  unfold f_L_law_b1611
  exact ⟨vi1, ⟨vi2, x_rules (hN.x k1) ⟨vi1, ⟨vi2, m_rules (hN.m k2) (fun I => ⟨fun _ => tc_end_ hK _ _ _, fun e => absurd rfl e⟩)⟩⟩⟩⟩
theorem tc_feast (hN : NEW Z I L) (k1 : jk Z v1 11) (k2 : jk Z v2 12) (hK : ∀ Z I L, K v1 v2 v3 6 Z I L) : f_L_law_b1648 xs 6 K v1 v2 v3 0 Z I L := by
  unfold f_L_law_b1648
  exact ⟨vi1, x_feast (hN.x k1) ⟨vi1, m_feast (hN.m k2) (fun I => ⟨fun _ => tc_end_ hK _ _ _, fun e => absurd rfl e⟩)⟩⟩
theorem tc_jam (hN : NEW Z I L) (k1 : jk Z v1 11) (k2 : jk Z v2 12) (hK : ∀ Z I L, K v1 v2 v3 6 Z I L) : f_L_law_b1673 xs 6 K v1 v2 v3 0 Z I L := by
  unfold f_L_law_b1673
  exact x_jam (hN.x k1) (m_jam (hN.m k2) (fun I => ⟨fun _ => tc_end_ hK _ _ _, fun e => absurd rfl e⟩))
theorem tc_row (hN : NEW Z I L) (k1 : jk Z v1 11) (k2 : jk Z v2 12) (hK : ∀ Z I L, K v1 v2 v3 6 Z I L) : f_L_law_b1761 xs 6 K v1 v2 v3 0 Z I L := by
  unfold f_L_law_b1761
  exact ⟨vi1, l_row (hN.x k1) ⟨vi1, m_row (hN.m k2) (fun r I e => thrown1 e ⟨fun _ => ⟨fun _ => by first | exact tc_end_ hK _ _ _ | (unfold f_L_law_b1813; exact tc_end_ hK _ _ _), fun e => absurd e (by decide)⟩, fun e => absurd rfl e⟩)⟩⟩
end P1CASES
