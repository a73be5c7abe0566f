/-! ===== p1: pilgrim ===== -/
theorem SH_one {Z : jZ} (h : SH Z) {a c : Nat} (ha : jk Z a c) : sh1 Z [] a c := by
  refine ⟨fun j k o e => ?_, fun e i b hb => ?_, fun e i hi => ?_, fun e i hi => ?_⟩
  · obtain ⟨b, h1, h2, h3⟩ := h.1 a c ha j k o e
    exact ⟨b, h1, List.not_mem_nil, h2, h3⟩
  · subst e
    exact ⟨List.not_mem_nil, h.2.1 a ha i b hb⟩
  · subst e
    obtain ⟨b, h1, h2⟩ := h.2.2.1 a ha i hi
    exact ⟨b, h1, List.not_mem_nil, h2⟩
  · subst e
    obtain ⟨b, h1, h2, h3⟩ := h.2.2.2 a ha i hi
    exact ⟨b, h1, List.not_mem_nil, h2, h3⟩
theorem SH_CI {B : jZ × jI × jL} {Z : jZ} {I : jI} {L : jL} {U : List Nat} (hB : SH B.1) (h : CI B Z I L U) (hU : ∀ u ∈ U, ∀ c, jk Z u c → sh1 Z [] u c) : SH Z := by
  refine SH_of (fun a c ha => ?_)
  by_cases hu : a ∈ U
  · exact hU a hu c ha
  · by_cases hb : a ∈ B.1.1
    · have hk : jk B.1 a (B.1.2.1 a) := ⟨hb, rfl⟩
      have e := jk_one ha (h.1 a _ hk).1
      subst e
      exact sh1_ext (SH_one hB hk) hk h.1 (h.2.1 a hb hu).1 (fun _ _ _ => List.not_mem_nil)
    · exact sh1_ext (h.2.2 a c ha hb hu).1 ha jext_rfl rfl (fun _ _ _ => List.not_mem_nil)
theorem SH_put18 {Z : jZ} {a i b : Nat} (h : SH Z) (ha : jk Z a 18) (hb : jk Z b 5) : SH (jpR Z a i (some b)) := by
  have e : ∀ x j, x ≠ a → jr (jpR Z a i (some b)) x j = jr Z x j := fun x j hx => congrFun (va_up_ne _ _ hx) j
  refine ⟨fun x c hx j k o he => ?_, fun x hx j y hy => ?_, fun x hx j hj => ?_, fun x hx j hj => ?_⟩
  · by_cases q : x = a
    · subst q
      cases jk_one (Z := Z) hx ha
      exact jsh_no (by decide) he
    · rw [e x j q]
      exact h.1 x c hx j k o he
  · by_cases q : x = a
    · subst q
      have hy : va_up Z.2.2.2 x (va_up (Z.2.2.2 x) i (some b)) x j = some y := hy
      rw [va_up_self] at hy
      by_cases r : j = i
      · subst r
        rw [va_up_self] at hy
        cases hy
        exact hb
      · rw [va_up_ne _ _ r] at hy
        exact h.2.1 x ha j y hy
    · rw [e x j q] at hy
      exact h.2.1 x hx j y hy
  · rw [e x j (kne (Z := Z) hx ha (by decide))]
    exact h.2.2.1 x hx j hj
  · rw [e x j (kne (Z := Z) hx ha (by decide))]
    exact h.2.2.2 x hx j hj
set_option maxHeartbeats 4000000 in
set_option maxRecDepth 100000 in
theorem p_X6 {B : jZ × jI × jL} {Z : jZ} {I : jI} {L : jL} {U : List Nat} {h0 v1 : Nat} {v2 v3 v4 : Int32} {Q : jZ → jI → jL → Prop} (hC : CI B Z I L (h0 :: U)) (hk : jk Z h0 6) (hB : h0 ∉ B.1.1) (hUZ : ∀ u ∈ U, u ∈ Z.1) (hI : ∀ j, I h0 j = 0) (hL : ∀ j, L h0 j = 0) (k8 : jk Z v1 8) (hv : v1 ∉ h0 :: U) (hQ : ∀ Z' I' L', CI B Z' I' L' (h0 :: U) → jext Z Z' → sh1 Z' [] h0 6 → Q Z' I' L') : f_X6_init h0 v1 v2 v3 v4 Z I L Q := by
  have s0 := ST_start hC hk hB hUZ hI hL
  unfold f_X6_init
  intro q1 nq1 Z2 eZ2 I3 eI3 L4 eL4
  intro Z7 eZ7
  have s1 := ST_arr 4 (k := 14) (m := 75) s0 nq1 (by decide) (by decide) (shA rfl)
  rw [← eZ2, ← eZ7, ← eI3, ← eL4] at s1
  intro q10 nq10 Z11 eZ11 I12 eI12 L13 eL13
  intro Z16 eZ16
  have s2 := ST_arr 5 (k := 14) (m := 75) s1 nq10 (by decide) (by decide) (shA rfl)
  rw [← eZ11, ← eZ16, ← eI12, ← eL13] at s2
  intro q19 nq19 Z20 eZ20 I21 eI21 L22 eL22
  intro Z25 eZ25
  have s3 := ST_arr 6 (k := 16) (m := 25) s2 nq19 (by decide) (by decide) (shA rfl)
  rw [← eZ20, ← eZ25, ← eI21, ← eL22] at s3
  intro q28 nq28 Z29 eZ29 I30 eI30 L31 eL31
  intro Z34 eZ34
  have s4 := ST_arr 7 (k := 14) (m := 25) s3 nq28 (by decide) (by decide) (shA rfl)
  rw [← eZ29, ← eZ34, ← eI30, ← eL31] at s4
  intro q37 nq37 Z38 eZ38 I39 eI39 L40 eL40
  intro Z43 eZ43
  have s5 := ST_arr 8 (k := 14) (m := 25) s4 nq37 (by decide) (by decide) (shA rfl)
  rw [← eZ38, ← eZ43, ← eI39, ← eL40] at s5
  intro q46 nq46 Z47 eZ47 I48 eI48 L49 eL49
  refine ST_obj p_X7_init s5 nq46 eZ47 eI48 eL49 (fun Z53 I54 L55 s6 kq46 uq46 _ _ => ?_)
  intro Z61 eZ61
  have s7 := ST_ref 9 s6 uq46 (shO rfl kq46)
  rw [← eZ61] at s7
  intro q64 nq64 Z65 eZ65 I66 eI66 L67 eL67
  refine ST_obj p_X7_init s7 nq64 eZ65 eI66 eL67 (fun Z71 I72 L73 s8 kq64 uq64 _ _ => ?_)
  intro Z79 eZ79
  have s9 := ST_ref 10 s8 uq64 (shO rfl kq64)
  rw [← eZ79] at s9
  intro q82 nq82 Z83 eZ83 I84 eI84 L85 eL85
  intro Z88 eZ88
  have s10 := ST_arr 11 (k := 15) (m := 21) s9 nq82 (by decide) (by decide) (shA rfl)
  rw [← eZ83, ← eZ88, ← eI84, ← eL85] at s10
  intro q91 nq91 Z92 eZ92 I93 eI93 L94 eL94
  intro Z97 eZ97
  have s11 := ST_arr 12 (k := 14) (m := 21) s10 nq91 (by decide) (by decide) (shA rfl)
  rw [← eZ92, ← eZ97, ← eI93, ← eL94] at s11
  intro q100 nq100 Z101 eZ101 I102 eI102 L103 eL103
  intro Z106 eZ106
  have s12 := ST_arr 13 (k := 14) (m := 21) s11 nq100 (by decide) (by decide) (shA rfl)
  rw [← eZ101, ← eZ106, ← eI102, ← eL103] at s12
  intro I109 eI109
  have s13 := ST_int 14 s12 (v := 0) rfl
  rw [← eI109] at s13
  intro I110 eI110
  have s14 := ST_int 15 s13 (v := 0) rfl
  rw [← eI110] at s14
  intro Z111 eZ111
  have s15 := ST_ref 0 s14 hv (shO rfl (s14.2.1 _ _ k8).1)
  rw [← eZ111] at s15
  obtain ⟨h1, h2, -, h4, -, -, h7, -⟩ := s15
  intro I114 eI114 I115 eI115 I116 eI116
  have c1 : CI B Z111 I116 L103 (h0 :: U) := CI_put h1 List.mem_cons_self rfl rfl rfl (fun a ha => ⟨rfl, by rw [eI116, jpI_off ha, eI115, jpI_off ha, eI114, jpI_off ha], rfl⟩)
  refine hQ _ _ _ c1 h2 ⟨fun j k o e => ?_, fun e => by omega, fun e => by omega, fun e => by omega⟩
  obtain ⟨b, g1, -, g3, g4⟩ := h7 j (shJ (by decide) j k o e) k o e
  exact ⟨b, g1, List.not_mem_nil, g3, g4⟩
def pg (v1 v2 v3 v4 : Int32) : Int32 := if v1 < 1 then -1 else if 120 < v1 then -1 else if v2 < 0 then -1 else if 999 < v2 then -1 else if v3 < 1 then -1 else if 3 < v3 then -1 else if v4 < 0 then -1 else if 50 < v4 then -1 else 0
set_option maxHeartbeats 4000000 in
theorem x_pilgrim {v1 v2 v3 v4 : Int32} {v0 : Nat} {Z : jZ} {I : jI} {L : jL} {Q : Int32 → jZ → jI → jL → Prop} (h0 : NEW Z I L) (k : jk Z v0 11) (h : ∀ Z' I' L', jext Z Z' → SH Z' → (∀ a, jk Z a 12 → I' a = I a) → Q (pg v1 v2 v3 v4) Z' I' L') : f_X11_pilgrim v0 v1 v2 v3 v4 Z I L Q := by
  have no : pg v1 v2 v3 v4 = -1 → f_X11_pilgrim_b48 Q v0 v1 v2 v3 v4 Z I L := fun e => by
    have h := h Z I L jext_rfl h0.1 (fun _ _ => rfl)
    rw [e] at h
    unfold f_X11_pilgrim_b48 f_X11_pilgrim_b49
    exact ⟨fun _ => h, fun q => absurd rfl q⟩
  unfold f_X11_pilgrim
  refine ⟨fun a => no (by simp [pg, a]), fun a => ⟨fun b => no (by simp [pg, a, b]), fun b => ⟨fun c => no (by simp [pg, a, b, c]), fun c => ⟨fun d => no (by simp [pg, a, b, c, d]), fun d => ⟨fun e => no (by simp [pg, a, b, c, d, e]), fun e => ⟨fun f => no (by simp [pg, a, b, c, d, e, f]), fun f => ⟨fun g => no (by simp [pg, a, b, c, d, e, f, g]), fun g => ⟨fun i => no (by simp [pg, a, b, c, d, e, f, g, i]), fun i => ?_⟩⟩⟩⟩⟩⟩⟩⟩
  have hpg : pg v1 v2 v3 v4 = 0 := by simp [pg, a, b, c, d, e, f, g, i]
  rw [hpg] at h
  have z4 : I v0 4 = 0 := ((h0.2 v0 11 k).1 4).trans (by simp [jz])
  unfold f_X11_pilgrim_b49
  refine ⟨fun q => absurd q (by decide), fun _ => ⟨fun _ b3 e3 q4 n4 Z5 eZ5 I6 eI6 L7 eL7 b11 e11 => ?_, fun q => absurd (show I v0 4 < 6 by rw [z4]; decide) q⟩⟩
  have c0 : CI (Z, I, L) Z I L [] := ⟨jext_rfl, fun _ _ _ => ⟨rfl, rfl, rfl⟩, fun a c ha hb _ => absurd ha.1 hb⟩
  have c1 := CI_nw (k := 5) (m := 0) c0 n4
  rw [← eZ5, ← eI6, ← eL7] at c1
  have k5 : jk Z5 q4 5 := by rw [eZ5]; exact jk_nw
  have x5 : jext Z Z5 := by rw [eZ5]; exact jext_nw n4
  have hne : v0 ≠ q4 := fun q => n4 (q ▸ k.1)
  have e11 : jr Z v0 2 = some b11 := by
    rw [← e11, eZ5]
    exact (congrFun (jr_nw_old hne) 2).symm
  have k8 : jk Z b11 8 := ko h0.1 k (j := 2) (k := 8) rfl e11
  have k18 : jk Z b3 18 := (kf h0.1 k (j := 3) (k := 18) (m := 6) rfl e3).1
  unfold f_X5_init
  intro I1 e1 I2 e2 I3 e3 I4 e4 I5 e5 I6' e6 I7 e7 I8 e8 q9 n9 Z10 eZ10 I11 eI11 L12 eL12
  have c8 : CI (Z, I, L) Z5 I8 L7 [q4] := CI_put c1 List.mem_cons_self rfl rfl rfl (fun a ha => ⟨rfl, by rw [e8, jpI_off ha, e7, jpI_off ha, e6, jpI_off ha, e5, jpI_off ha, e4, jpI_off ha, e3, jpI_off ha, e2, jpI_off ha, e1, jpI_off ha], rfl⟩)
  have c10 := CI_nw (k := 6) (m := 0) c8 n9
  rw [← eZ10, ← eI11, ← eL12] at c10
  have k6 : jk Z10 q9 6 := by rw [eZ10]; exact jk_nw
  have x10 : jext Z5 Z10 := by rw [eZ10]; exact jext_nw n9
  have q9Z : q9 ∉ Z.1 := fun q => n9 (x5 q9 _ ⟨q, rfl⟩).1.1
  have nU : ∀ a, a ∈ Z.1 → a ∉ [q9, q4] := fun a ha hm => by
    rcases List.mem_cons.mp hm with q | q
    · exact q9Z (q ▸ ha)
    · exact n4 (List.mem_singleton.mp q ▸ ha)
  refine p_X6 (B := (Z, I, L)) (U := [q4]) c10 k6 q9Z (fun u hu => by rw [List.mem_singleton.mp hu]; exact (x10 _ _ k5).1.1) (fun j => by rw [eI11]; exact congrFun (va_up_self _ _ _) j) (fun j => by rw [eL12]; exact congrFun (va_up_self _ _ _) j) (x10 _ _ (x5 _ _ k8).1).1 (nU _ k8.1) (fun Z16 I17 L18 c16 x16 s16 Z24 eZ24 => ?_)
  have hq : q9 ≠ q4 := fun q => n9 (q ▸ k5.1)
  have c24 : CI (Z, I, L) Z24 I17 L18 [q9, q4] := by
    rw [eZ24]
    exact CI_put (u := q4) c16 (List.mem_cons_of_mem _ List.mem_cons_self) rfl rfl rfl (fun a ha => ⟨va_up_ne _ _ ha, rfl, rfl⟩)
  have x24 : jext Z16 Z24 := by rw [eZ24]; exact jext_putr
  have k6' : jk Z16 q9 6 := (x16 _ _ k6).1
  have k5' : jk Z24 q4 5 := (x24 _ _ (x16 _ _ (x10 _ _ k5).1).1).1
  have sh24 : SH Z24 := by
    refine SH_CI h0.1 c24 (fun u hu c hc => ?_)
    rcases List.mem_cons.mp hu with q | q
    · subst q
      cases jk_one hc (x24 _ _ k6').1
      exact sh1_ext s16 k6' x24 (by rw [eZ24]; exact va_up_ne _ _ hq) (fun _ _ _ => List.not_mem_nil)
    · have q := List.mem_singleton.mp q
      subst q
      cases jk_one hc k5'
      refine ⟨fun j k o e => ?_, fun e => by omega, fun e => by omega, fun e => by omega⟩
      have hj : j ∈ [8] := shJ (J := [8]) (c := 5) (by decide) j k o e
      have hj := List.mem_singleton.mp hj
      subst hj
      have e : some (6, none) = some (k, o) := e
      cases e
      refine ⟨q9, ?_, List.not_mem_nil, (x24 _ _ k6').1, fun m hm => by cases hm⟩
      rw [eZ24]
      show va_up Z16.2.2.2 u (va_up (Z16.2.2.2 u) 8 (some q9)) u 8 = some q9
      rw [va_up_self, va_up_self]
  have zI : I17 v0 = I v0 := (c24.2.1 v0 k.1 (nU _ k.1)).2.1
  refine ⟨by rw [z4]; exact vp_in_lit (by decide), fun Z22 eZ22 I24 eI24 => ?_⟩
  have sh22 : SH Z22 := by rw [eZ22]; exact SH_put18 sh24 (c24.1 _ _ k18).1 k5'
  have x22 : jext Z Z22 := by rw [eZ22]; exact jext_trans c24.1 jext_putr
  refine ⟨sh22, ?_⟩
  have z24 : I24 v0 4 = 1 := by
    rw [eI24, jpI_at, zI, z4]
    rfl
  rw [z24]
  exact h Z22 I24 L18 x22 sh22 (fun a ka => by rw [eI24, jpI_off (kne ka k (by decide))]; exact (c24.2.1 a ka.1 (nU _ ka.1)).2.1)
set_option maxHeartbeats 4000000 in
theorem m_pilgrim {v1 v2 v3 v4 : Int32} {v0 : Nat} {Z : jZ} {I : jI} {L : jL} {Q : Int32 → jI → jL → Prop} (hZ : SH Z) (k : jk Z v0 12) (h0 : MN I v0) (h : ∀ I, Q (pg v1 v2 v3 v4) I L) : f_X12_pilgrim v0 v1 v2 v3 v4 Z I L Q := by
  have no : pg v1 v2 v3 v4 = -1 → ∀ I, Q (-1) I L := fun e I => by
    have h := h I
    rw [e] at h
    exact h
  unfold f_X12_pilgrim
  intro I1 e1
  have h0 : MN I1 v0 := by rw [e1]; exact h0.put
  unfold f_X12_in
  refine ⟨fun a => ⟨fun _ => no (by simp [pg, a]) _, fun q => absurd rfl q⟩, fun a => ⟨fun b => ⟨fun _ => no (by simp [pg, a, b]) _, fun q => absurd rfl q⟩, fun b => ⟨fun q => absurd q (by decide), fun _ => ?_⟩⟩⟩
  refine ⟨fun c => ⟨fun _ => no (by simp [pg, a, b, c]) _, fun q => absurd rfl q⟩, fun c => ⟨fun d => ⟨fun _ => no (by simp [pg, a, b, c, d]) _, fun q => absurd rfl q⟩, fun d => ⟨fun q => absurd q (by decide), fun _ => ?_⟩⟩⟩
  refine ⟨fun e => ⟨fun _ => no (by simp [pg, a, b, c, d, e]) _, fun q => absurd rfl q⟩, fun e => ⟨fun f => ⟨fun _ => no (by simp [pg, a, b, c, d, e, f]) _, fun q => absurd rfl q⟩, fun f => ⟨fun q => absurd q (by decide), fun _ => ?_⟩⟩⟩
  refine ⟨fun g => ⟨fun _ => no (by simp [pg, a, b, c, d, e, f, g]) _, fun q => absurd rfl q⟩, fun g => ⟨fun i => ⟨fun _ => no (by simp [pg, a, b, c, d, e, f, g, i]) _, fun q => absurd rfl q⟩, fun i => ⟨fun q => absurd q (by decide), fun _ => ?_⟩⟩⟩
  have hpg : pg v1 v2 v3 v4 = 0 := by simp [pg, a, b, c, d, e, f, g, i]
  rw [hpg] at h
  have st : ∀ {I I' : jI} {b j n : Nat} {x : Int32}, I v0 8 = 0 → jk Z b 14 → I' = jpI I b j x → I' v0 8 = 0 := fun z kb e => by
    rw [e, jpI_off (kne k kb (by decide))]
    exact z
  have vi : ∀ {I : jI}, I v0 8 = 0 → vp_in (I v0 8) 6 := fun z => by
    rw [z]
    exact vp_in_lit (by decide)
  have z0 : I1 v0 8 = 0 := (h0 8 (by decide)).trans (by simp [jz])
  refine ⟨fun _ b31 e31 => ⟨vi z0, fun I33 e33 b34 e34 => ?_⟩, fun q => absurd (z0.symm.trans q) (by decide)⟩
  have z1 := st (n := 0) z0 (kf hZ k (j := 9) (k := 14) (m := 6) rfl e31).1 e33
  refine ⟨vi z1, fun I36 e36 b37 e37 => ?_⟩
  have z2 := st (n := 0) z1 (kf hZ k (j := 10) (k := 14) (m := 6) rfl e34).1 e36
  refine ⟨vi z2, fun I39 e39 b40 e40 => ?_⟩
  have z3 := st (n := 0) z2 (kf hZ k (j := 11) (k := 14) (m := 6) rfl e37).1 e39
  refine ⟨vi z3, fun I42 e42 b43 e43 => ?_⟩
  have z4 := st (n := 0) z3 (kf hZ k (j := 12) (k := 14) (m := 6) rfl e40).1 e42
  refine ⟨vi z4, fun I45 e45 b46 e46 => ?_⟩
  have z5 := st (n := 0) z4 (kf hZ k (j := 13) (k := 14) (m := 6) rfl e43).1 e45
  refine ⟨vi z5, fun I48 e48 b49 e49 => ?_⟩
  have z6 := st (n := 0) z5 (kf hZ k (j := 14) (k := 14) (m := 6) rfl e46).1 e48
  refine ⟨vi z6, fun I51 e51 b52 e52 => ?_⟩
  have z7 := st (n := 0) z6 (kf hZ k (j := 15) (k := 14) (m := 6) rfl e49).1 e51
  refine ⟨vi z7, fun I54 e54 I55 e55 => ?_⟩
  have z8 := st (n := 0) z7 (kf hZ k (j := 16) (k := 14) (m := 6) rfl e52).1 e54
  have z9 : I55 v0 8 = 1 := by
    rw [e55, jpI_at, z8]
    rfl
  rw [z9]
  exact h I55
section P1CASES13
variable {xs : Nat → Int32} {K : Nat → Nat → Nat → Int32 → jZ → jI → jL → Prop} {v1 v2 v3 : Nat} {Z : jZ} {I : jI} {L : jL}
theorem tc_pilgrim (hN : NEW Z I L) (k1 : jk Z v1 11) (k2 : jk Z v2 12) (hK : ∀ Z I L, K v1 v2 v3 6 Z I L) : f_L_law_b600 xs 6 K v1 v2 v3 0 Z I L := by
  unfold f_L_law_b600
  exact ⟨vi1, vi2, vi3, vi4, x_pilgrim hN k1 (fun Z' I' L' x sh g => ⟨vi1, vi2, vi3, vi4, m_pilgrim sh (x _ _ k2).1 ((hN.m k2).of k2 g) (fun I => ⟨fun _ => tc_end_ hK _ _ _, fun e => absurd rfl e⟩)⟩)⟩
end P1CASES13
