set_option maxHeartbeats 4000000 in
set_option maxRecDepth 100000 in
theorem s_X6_moveTo {Z : jZ} {I : jI} {L : jL} (w_I : WD Z I) (v0 : Int32) (v1 : Int32) (p0 : 0 ≤ v0.toInt ∧ v0.toInt ≤ 24 ∧ 1 ≤ v1.toInt ∧ v1.toInt ≤ 3) {Q : Int32 → jI → jL → Prop} (hQ : ∀ (r : Int32), r.toInt = v0.toInt * 3 + v1.toInt - 1 → Q r I L) : f_X6_moveTo v0 v1 Z I L Q := by
  unfold f_X6_moveTo
  have rv0 := i_rng v0
  have rv1 := i_rng v1
  try (have t1 : (((v0 * (3 : Int32)) + v1) - (1 : Int32)).toInt = (((v0.toInt * (3)) + v1.toInt) - (1)) := (i_sub (i_add (i_mul rfl (show (3 : Int32).toInt = 3 from rfl) (by omega) (by omega)) rfl (by omega) (by omega)) (show (1 : Int32).toInt = 1 from rfl) (by omega) (by omega)))
  exact hQ (((v0 * (3 : Int32)) + v1) - (1 : Int32)) (by omega)
set_option maxHeartbeats 4000000 in
set_option maxRecDepth 100000 in
theorem s_X6_keyOf {Z : jZ} {I : jI} {L : jL} (w_I : WD Z I) (v0 : Nat) (v1 : Int32) (v2 : Int32) (kv0 : jk Z v0 6) (p0 : 0 ≤ v1.toInt ∧ v1.toInt ≤ 24 ∧ 1 ≤ v2.toInt ∧ v2.toInt ≤ 3) {Q : Int64 → jI → jL → Prop} (hQ : ∀ (r : Int64), Q r I L) : f_X6_keyOf v0 v1 v2 Z I L Q := by
  unfold f_X6_keyOf
  have rv1 := i_rng v1
  have rv2 := i_rng v2
  refine s_X6_moveTo w_I v1 v2   (by omega) (fun r1 p2 => ?_)
  have rr1 := i_rng r1
  intro b3 eb3
  obtain ⟨x4, ex4, kb3, lb3⟩ := sh_f w_I.1 kv0 (j := 4) (k := 14) (m := 75) rfl
  cases eb3.symm.trans ex4
  have o5 : vp_in r1 75 := vi_of rfl (by omega) (by omega)
  refine ⟨o5, ?_⟩
  have t6 : 0 ≤ (I b3 r1.toNatClampNeg).toInt ∧ (I b3 r1.toNatClampNeg).toInt ≤ 297 := w_I.arr 6 4 kv0 eb3 kb3 rfl rfl _
  intro b7 eb7
  obtain ⟨x8, ex8, kb7, lb7⟩ := sh_f w_I.1 kv0 (j := 5) (k := 14) (m := 75) rfl
  cases eb7.symm.trans ex8
  have o9 : vp_in r1 75 := vi_of rfl (by omega) (by omega)
  refine ⟨o9, ?_⟩
  try (have t10 : (v1 - (1 : Int32)).toInt = (v1.toInt - (1)) := (i_sub rfl (show (1 : Int32).toInt = 1 from rfl) (by omega) (by omega)))
  refine s_X11_bitOf w_I (v1 - (1 : Int32))    (fun r11  => ?_)
  exact hQ ((((((I b3 r1.toNatClampNeg).toInt64) <<< ((41 : Int32).toInt64 &&& 63)) + (((I b7 r1.toNatClampNeg).toInt64) <<< ((29 : Int32).toInt64 &&& 63))) + (16777216 : Int64)) - r11) 
def Ws_X6_feed : List (Nat × Nat) := [(7, 1), (7, 2), (7, 3), (7, 4), (7, 5), (7, 8), (7, 9)]
set_option maxHeartbeats 4000000 in
set_option maxRecDepth 100000 in
theorem l_X6_feed_L8 {Z : jZ} {I0 : jI} {Q : jI → jL → Prop} (w0 : WD Z I0) (v0 : Nat) (v1 : Nat) (v2 : Int32) (v3 : Int64) (v5 : Int32) (kv0 : jk Z v0 6) (kv1 : jk Z v1 7) (p0 : 1 ≤ v2.toInt ∧ v2.toInt ≤ 24) (hQ : ∀  (I' : jI) (L' : jL), WD Z I' → FR Ws_X6_feed Z I0 Z I' → ((I' v1 3).toInt = (I0 v1 3).toInt ∧ FI Z I' v1 v2.toNatClampNeg ∧ RO v1 Z I0 I') → Q I' L') : ∀ (n : Nat) (v6 : Int32) (I : jI) (L : jL), WD Z I → FR Ws_X6_feed Z I0 Z I →   ((1 ≤ v6.toInt ∧ v6.toInt ≤ 4) ∧ (I v1 3).toInt = (I0 v1 3).toInt ∧ FI Z I v1 v2.toNatClampNeg ∧ RO v1 Z I0 I) → 4 - v6.toInt < (n : Int) → f_X6_feed_L8  Z Q n v0 v1 v2 v3 v5 v6 I L := by
  intro n
  induction n with
  | zero =>
    intro v6 I L w_I q_I   li  me
    exfalso
    omega
  | succ n ih =>
    intro v6 I L w_I q_I   li  me
    unfold f_X6_feed_L8
    have rv6 := i_rng v6
    have rv2 := i_rng v2
    have rv5 := i_rng v5
    obtain ⟨li0, li1, li2, li3⟩ := li
    have ro_I := li3
    have t2 : 0 ≤ (I v0 3).toInt ∧ (I v0 3).toInt ≤ 3 := w_I.fld 6 3 kv0 (by decide)
    refine ⟨fun c3 => ?_, fun c3 => ?_⟩
    · skip
      first | (have t4 : (I v0 3).toInt < v6.toInt := (i_lt rfl rfl).mp c3) | (have t4 : (I v0 3).toInt < v6.toInt := (i_lt rfl rfl).mp c3) | skip
      exact hQ  I L w_I q_I (by refine ⟨?_, ?_, ?_⟩; (omega); (first | assumption | solve_by_elim); exact ro_I)
    · skip
      first | (have t5 : ¬ ((I v0 3).toInt < v6.toInt) := (not_congr (i_lt rfl rfl)).mp c3) | (have t5 : ¬ ((I v0 3).toInt < v6.toInt) := (not_congr (i_lt rfl rfl)).mp c3) | skip
      refine ⟨fun c6 => ?_, fun c6 => ?_⟩
      · skip
        first | (have t7 : v2.toInt < v6.toInt := (i_lt rfl rfl).mp c6) | (have t7 : v2.toInt < v6.toInt := (i_lt rfl rfl).mp c6) | skip
        exact hQ  I L w_I q_I (by refine ⟨?_, ?_, ?_⟩; (omega); (first | assumption | solve_by_elim); exact ro_I)
      · skip
        first | (have t8 : ¬ (v2.toInt < v6.toInt) := (not_congr (i_lt rfl rfl)).mp c6) | (have t8 : ¬ (v2.toInt < v6.toInt) := (not_congr (i_lt rfl rfl)).mp c6) | skip
        intro b9 eb9
        obtain ⟨x10, ex10, kb9, lb9⟩ := sh_f w_I.1 kv0 (j := 6) (k := 16) (m := 25) rfl
        cases eb9.symm.trans ex10
        have o11 : vp_in v2 25 := vi_of rfl (by omega) (by omega)
        refine ⟨o11, ?_⟩
        refine ⟨fun c12 => ?_, fun c12 => ?_⟩
        · skip
          first | (have t13 : (I b9 v2.toNatClampNeg).toInt = (0) := (i_eq rfl (show (0 : Int32).toInt = 0 from rfl)).mp c12) | (have t13 : (I b9 v2.toNatClampNeg).toInt = (0 : Int32).toInt := (i_eq rfl rfl).mp c12) | skip
          exact hQ  I L w_I q_I (by refine ⟨?_, ?_, ?_⟩; (omega); (first | assumption | solve_by_elim); exact ro_I)
        · skip
          first | (have t14 : ¬ ((I b9 v2.toNatClampNeg).toInt = (0)) := (not_congr (i_eq rfl (show (0 : Int32).toInt = 0 from rfl))).mp c12) | (have t14 : ¬ ((I b9 v2.toNatClampNeg).toInt = (0 : Int32).toInt) := (not_congr (i_eq rfl rfl)).mp c12) | skip
          refine ⟨fun c15 => ?_, fun c15 => ?_⟩
          · skip
            first | (have t16 : (v5.toInt + (1)) ≤ (v2.toInt - v6.toInt) := (i_le (i_add rfl (show (1 : Int32).toInt = 1 from rfl) (by omega) (by omega)) (i_sub rfl rfl (by omega) (by omega))).mp c15) | (have t16 : (v5 + (1 : Int32)).toInt ≤ (v2 - v6).toInt := (i_le rfl rfl).mp c15) | skip
            unfold f_X6_feed_b55
            unfold f_X6_feed_b56
            refine ⟨fun c17 => ?_, fun c17 => ?_⟩
            · skip
              first | (have t18 : ¬ ((0) = (0)) := (not_congr (i_eq (show (0 : Int32).toInt = 0 from rfl) (show (0 : Int32).toInt = 0 from rfl))).mp c17) | (have t18 : ¬ ((0 : Int32).toInt = (0 : Int32).toInt) := (not_congr (i_eq rfl rfl)).mp c17) | skip
              unfold f_X6_feed_b80
              intro x19 ex19
              have rx19 := i_rng x19
              first | (have tx19 : x19.toInt = v6.toInt + (1) := by (rw [ex19]; exact (i_add rfl (show (1 : Int32).toInt = 1 from rfl) (by omega) (by omega)))) | skip
              exact ih x19 I L w_I q_I   (by refine ⟨?_, ?_, ?_, ?_⟩; (omega); (omega); (first | assumption | solve_by_elim); exact ro_I)  (by omega)
            · skip
              first | (have t20 : (0) = (0) := (i_eq (show (0 : Int32).toInt = 0 from rfl) (show (0 : Int32).toInt = 0 from rfl)).mp c17) | (have t20 : (0 : Int32).toInt = (0 : Int32).toInt := (i_eq rfl rfl).mp c17) | skip
              refine s_X6_keyOf w_I v0 v2 v6 kv0  (by omega) (fun r21  => ?_)
              try (have t22 : (v2 - v6).toInt = (v2.toInt - v6.toInt) := (i_sub rfl rfl (by omega) (by omega)))
              refine s_X7_merge w_I v1 (v2 - v6) (r21 &&& v3) kv1   (fun  I24 L25 w_I24 f_I24 p23 => ?_)
              have q_I24 : FR Ws_X6_feed Z I0 Z I24 := q_I.trans w0.1 w0.2.1 (f_I24.mono (by decide))
              have u26 : (I24 v0 3).toInt = (I v0 3).toInt := by rw [f_I24.2.2.1 v0 6 3 kv0 (by decide) (by decide)]
              obtain ⟨p23_0, p23_1, p23_2⟩ := p23
              have ro_I24 : RO v1 Z I0 I24 := RO.trans q_I.1 ro_I p23_2
              unfold f_X6_feed_b80
              intro x27 ex27
              have rx27 := i_rng x27
              first | (have tx27 : x27.toInt = v6.toInt + (1) := by (rw [ex27]; exact (i_add rfl (show (1 : Int32).toInt = 1 from rfl) (by omega) (by omega)))) | skip
              exact ih x27 I24 L25 w_I24 q_I24   (by refine ⟨?_, ?_, ?_, ?_⟩; (omega); (omega); (first | assumption | solve_by_elim); exact ro_I24)  (by omega)
          · skip
            first | (have t28 : ¬ ((v5.toInt + (1)) ≤ (v2.toInt - v6.toInt)) := (not_congr (i_le (i_add rfl (show (1 : Int32).toInt = 1 from rfl) (by omega) (by omega)) (i_sub rfl rfl (by omega) (by omega)))).mp c15) | (have t28 : ¬ ((v5 + (1 : Int32)).toInt ≤ (v2 - v6).toInt) := (not_congr (i_le rfl rfl)).mp c15) | skip
            refine ⟨fun c29 => ?_, fun c29 => ?_⟩
            · skip
              first | (have t30 : v2.toInt ≤ (v5.toInt + (1)) := (i_le rfl (i_add rfl (show (1 : Int32).toInt = 1 from rfl) (by omega) (by omega))).mp c29) | (have t30 : v2.toInt ≤ (v5 + (1 : Int32)).toInt := (i_le rfl rfl).mp c29) | skip
              unfold f_X6_feed_b55
              unfold f_X6_feed_b56
              refine ⟨fun c31 => ?_, fun c31 => ?_⟩
              · skip
                first | (have t32 : ¬ ((0) = (0)) := (not_congr (i_eq (show (0 : Int32).toInt = 0 from rfl) (show (0 : Int32).toInt = 0 from rfl))).mp c31) | (have t32 : ¬ ((0 : Int32).toInt = (0 : Int32).toInt) := (not_congr (i_eq rfl rfl)).mp c31) | skip
                unfold f_X6_feed_b80
                intro x33 ex33
                have rx33 := i_rng x33
                first | (have tx33 : x33.toInt = v6.toInt + (1) := by (rw [ex33]; exact (i_add rfl (show (1 : Int32).toInt = 1 from rfl) (by omega) (by omega)))) | skip
                exact ih x33 I L w_I q_I   (by refine ⟨?_, ?_, ?_, ?_⟩; (omega); (omega); (first | assumption | solve_by_elim); exact ro_I)  (by omega)
              · skip
                first | (have t34 : (0) = (0) := (i_eq (show (0 : Int32).toInt = 0 from rfl) (show (0 : Int32).toInt = 0 from rfl)).mp c31) | (have t34 : (0 : Int32).toInt = (0 : Int32).toInt := (i_eq rfl rfl).mp c31) | skip
                refine s_X6_keyOf w_I v0 v2 v6 kv0  (by omega) (fun r35  => ?_)
                try (have t36 : (v2 - v6).toInt = (v2.toInt - v6.toInt) := (i_sub rfl rfl (by omega) (by omega)))
                refine s_X7_merge w_I v1 (v2 - v6) (r35 &&& v3) kv1   (fun  I38 L39 w_I38 f_I38 p37 => ?_)
                have q_I38 : FR Ws_X6_feed Z I0 Z I38 := q_I.trans w0.1 w0.2.1 (f_I38.mono (by decide))
                have u40 : (I38 v0 3).toInt = (I v0 3).toInt := by rw [f_I38.2.2.1 v0 6 3 kv0 (by decide) (by decide)]
                obtain ⟨p37_0, p37_1, p37_2⟩ := p37
                have ro_I38 : RO v1 Z I0 I38 := RO.trans q_I.1 ro_I p37_2
                unfold f_X6_feed_b80
                intro x41 ex41
                have rx41 := i_rng x41
                first | (have tx41 : x41.toInt = v6.toInt + (1) := by (rw [ex41]; exact (i_add rfl (show (1 : Int32).toInt = 1 from rfl) (by omega) (by omega)))) | skip
                exact ih x41 I38 L39 w_I38 q_I38   (by refine ⟨?_, ?_, ?_, ?_⟩; (omega); (omega); (first | assumption | solve_by_elim); exact ro_I38)  (by omega)
            · skip
              first | (have t42 : ¬ (v2.toInt ≤ (v5.toInt + (1))) := (not_congr (i_le rfl (i_add rfl (show (1 : Int32).toInt = 1 from rfl) (by omega) (by omega)))).mp c29) | (have t42 : ¬ (v2.toInt ≤ (v5 + (1 : Int32)).toInt) := (not_congr (i_le rfl rfl)).mp c29) | skip
              unfold f_X6_feed_b56
              refine ⟨fun c43 => ?_, fun c43 => ?_⟩
              · skip
                first | (have t44 : ¬ ((1) = (0)) := (not_congr (i_eq (show (1 : Int32).toInt = 1 from rfl) (show (0 : Int32).toInt = 0 from rfl))).mp c43) | (have t44 : ¬ ((1 : Int32).toInt = (0 : Int32).toInt) := (not_congr (i_eq rfl rfl)).mp c43) | skip
                unfold f_X6_feed_b80
                intro x45 ex45
                have rx45 := i_rng x45
                first | (have tx45 : x45.toInt = v6.toInt + (1) := by (rw [ex45]; exact (i_add rfl (show (1 : Int32).toInt = 1 from rfl) (by omega) (by omega)))) | skip
                exact ih x45 I L w_I q_I   (by refine ⟨?_, ?_, ?_, ?_⟩; (omega); (omega); (first | assumption | solve_by_elim); exact ro_I)  (by omega)
              · skip
                first | (have t46 : (1) = (0) := (i_eq (show (1 : Int32).toInt = 1 from rfl) (show (0 : Int32).toInt = 0 from rfl)).mp c43) | (have t46 : (1 : Int32).toInt = (0 : Int32).toInt := (i_eq rfl rfl).mp c43) | skip
                refine s_X6_keyOf w_I v0 v2 v6 kv0  (by omega) (fun r47  => ?_)
                try (have t48 : (v2 - v6).toInt = (v2.toInt - v6.toInt) := (i_sub rfl rfl (by omega) (by omega)))
                refine s_X7_merge w_I v1 (v2 - v6) (r47 &&& v3) kv1   (fun  I50 L51 w_I50 f_I50 p49 => ?_)
                have q_I50 : FR Ws_X6_feed Z I0 Z I50 := q_I.trans w0.1 w0.2.1 (f_I50.mono (by decide))
                have u52 : (I50 v0 3).toInt = (I v0 3).toInt := by rw [f_I50.2.2.1 v0 6 3 kv0 (by decide) (by decide)]
                obtain ⟨p49_0, p49_1, p49_2⟩ := p49
                have ro_I50 : RO v1 Z I0 I50 := RO.trans q_I.1 ro_I p49_2
                unfold f_X6_feed_b80
                intro x53 ex53
                have rx53 := i_rng x53
                first | (have tx53 : x53.toInt = v6.toInt + (1) := by (rw [ex53]; exact (i_add rfl (show (1 : Int32).toInt = 1 from rfl) (by omega) (by omega)))) | skip
                exact ih x53 I50 L51 w_I50 q_I50   (by refine ⟨?_, ?_, ?_, ?_⟩; (omega); (omega); (first | assumption | solve_by_elim); exact ro_I50)  (by omega)
set_option maxHeartbeats 4000000 in
set_option maxRecDepth 100000 in
theorem s_X6_feed {Z : jZ} {I : jI} {L : jL} (w_I : WD Z I) (v0 : Nat) (v1 : Nat) (v2 : Int32) (v3 : Int64) (v5 : Int32) (kv0 : jk Z v0 6) (kv1 : jk Z v1 7) (p0 : 1 ≤ v2.toInt ∧ v2.toInt ≤ 24) {Q : jI → jL → Prop} (hQ : ∀  (I' : jI) (L' : jL), WD Z I' → FR Ws_X6_feed Z I Z I' → ((I' v1 3).toInt = (I v1 3).toInt ∧ FI Z I' v1 v2.toNatClampNeg ∧ RO v1 Z I I') → Q I' L') : f_X6_feed v0 v1 v2 v3 v5 Z I L Q := by
  unfold f_X6_feed
  have q_I : FR Ws_X6_feed Z I Z I := FR.rf
  have ro_I : RO v1 Z I I := RO.rf
  have rv2 := i_rng v2
  have rv5 := i_rng v5
  refine s_X7_start w_I v1 v2 kv1  (by omega) (fun  I55 L56 w_I55 f_I55 p54 => ?_)
  have q_I55 : FR Ws_X6_feed Z I Z I55 := q_I.trans w_I.1 w_I.2.1 (f_I55.mono (by decide))
  obtain ⟨p54_0, p54_1, p54_2⟩ := p54
  have ro_I55 : RO v1 Z I I55 := RO.trans q_I.1 ro_I p54_2
  have t57 : (1 : Int32).toInt = 1 := rfl
  exact ⟨(4 - (1 : Int32).toInt).toNat + 1, l_X6_feed_L8 w_I v0 v1 v2 v3 v5 kv0 kv1 p0   hQ   _ (1 : Int32) I55 L56 w_I55 q_I55   (by refine ⟨?_, ?_, ?_, ?_⟩; (omega); (omega); (first | assumption | solve_by_elim); exact ro_I55)  (by omega)⟩
def Ws_X0_addReach : List (Nat × Nat) := []
set_option maxHeartbeats 4000000 in
set_option maxRecDepth 100000 in
theorem l_X0_addReach_L16 {Z : jZ} {I0 : jI} {Q : jI → jL → Prop} (w0 : WD Z I0) (v0 : Nat) (v1 : Int32) (v2 : Int32) (v3 : Int32) (kv0 : jk Z v0 0) (p0 : 0 ≤ v1.toInt ∧ v1.toInt ≤ 24 ∧ 0 ≤ v2.toInt ∧ v2.toInt ≤ 24 ∧ 0 ≤ v3.toInt) (v4 : Int32) (v5 : Int32) (hQ : ∀  (I' : jI) (L' : jL), WD Z I' → FR Ws_X0_addReach Z I0 Z I' → Q I' L') : ∀ (n : Nat) (v6 : Int32) (I : jI) (L : jL), WD Z I → FR Ws_X0_addReach Z I0 Z I →   (-1 ≤ v6.toInt ∧ v6.toInt ≤ 15 ∧ 0 ≤ v4.toInt) → v6.toInt + 1 < (n : Int) → f_X0_addReach_L16  Z Q n v0 v1 v2 v4 v5 v6 I L := by
  intro n
  induction n with
  | zero =>
    intro v6 I L w_I q_I   li  me
    exfalso
    omega
  | succ n ih =>
    intro v6 I L w_I q_I   li  me
    unfold f_X0_addReach_L16
    have rv6 := i_rng v6
    have rv4 := i_rng v4
    have rv5 := i_rng v5
    have rv1 := i_rng v1
    have rv2 := i_rng v2
    have rv3 := i_rng v3
    refine ⟨fun c1 => ?_, fun c1 => ?_⟩
    · skip
      first | (have t2 : v6.toInt < v4.toInt := (i_lt rfl rfl).mp c1) | (have t2 : v6.toInt < v4.toInt := (i_lt rfl rfl).mp c1) | skip
      exact hQ  I L w_I q_I 
    · skip
      first | (have t3 : ¬ (v6.toInt < v4.toInt) := (not_congr (i_lt rfl rfl)).mp c1) | (have t3 : ¬ (v6.toInt < v4.toInt) := (not_congr (i_lt rfl rfl)).mp c1) | skip
      refine ⟨fun c4 => ?_, fun c4 => ?_⟩
      · skip
        first | (have t5 : v6.toInt < (0) := (i_lt rfl (show (0 : Int32).toInt = 0 from rfl)).mp c4) | (have t5 : v6.toInt < (0 : Int32).toInt := (i_lt rfl rfl).mp c4) | skip
        exact hQ  I L w_I q_I 
      · skip
        first | (have t6 : ¬ (v6.toInt < (0)) := (not_congr (i_lt rfl (show (0 : Int32).toInt = 0 from rfl))).mp c4) | (have t6 : ¬ (v6.toInt < (0 : Int32).toInt) := (not_congr (i_lt rfl rfl)).mp c4) | skip
        intro b7 eb7
        obtain ⟨x8, ex8, kb7, lb7⟩ := sh_f w_I.1 kv0 (j := 1) (k := 15) (m := 400) rfl
        cases eb7.symm.trans ex8
        have o9 : vp_in (((v2 * (16 : Int32)) + v6) - v4) 400 := vi_of (i_sub (i_add (i_mul rfl (show (16 : Int32).toInt = 16 from rfl) (by omega) (by omega)) rfl (by omega) (by omega)) rfl (by omega) (by omega)) (by omega) (by omega)
        refine ⟨o9, ?_⟩
        intro x10 ex10
        refine ⟨fun c11 => ?_, fun c11 => ?_⟩
        · skip
          first | (have t12 : v5.toInt ≤ (0) := (i_le rfl (show (0 : Int32).toInt = 0 from rfl)).mp c11) | (have t12 : v5.toInt ≤ (0 : Int32).toInt := (i_le rfl rfl).mp c11) | skip
          unfold f_X0_addReach_b88
          intro b13 eb13
          obtain rfl : b7 = b13 := Option.some.inj (eb7.symm.trans eb13)
          have o14 : vp_in ((v1 * (16 : Int32)) + v6) 400 := vi_of (i_add (i_mul rfl (show (16 : Int32).toInt = 16 from rfl) (by omega) (by omega)) rfl (by omega) (by omega)) (by omega) (by omega)
          refine ⟨o14, ?_⟩
          have o15 : vp_in ((v1 * (16 : Int32)) + v6) 400 := vi_of (i_add (i_mul rfl (show (16 : Int32).toInt = 16 from rfl) (by omega) (by omega)) rfl (by omega) (by omega)) (by omega) (by omega)
          refine ⟨o15, ?_⟩
          intro L16 eL16
          intro x17 ex17
          have rx17 := i_rng x17
          first | (have tx17 : x17.toInt = v6.toInt + (-1) := by (rw [ex17]; exact (i_add rfl (show (-1 : Int32).toInt = -1 from rfl) (by omega) (by omega)))) | skip
          exact ih x17 I L16 w_I q_I   (by omega)  (by omega)
        · skip
          first | (have t18 : ¬ (v5.toInt ≤ (0)) := (not_congr (i_le rfl (show (0 : Int32).toInt = 0 from rfl))).mp c11) | (have t18 : ¬ (v5.toInt ≤ (0 : Int32).toInt) := (not_congr (i_le rfl rfl)).mp c11) | skip
          refine ⟨fun c19 => ?_, fun c19 => ?_⟩
          · skip
            first | (have t20 : v6.toInt ≤ v4.toInt := (i_le rfl rfl).mp c19) | (have t20 : v6.toInt ≤ v4.toInt := (i_le rfl rfl).mp c19) | skip
            unfold f_X0_addReach_b88
            intro b21 eb21
            obtain rfl : b7 = b21 := Option.some.inj (eb7.symm.trans eb21)
            have o22 : vp_in ((v1 * (16 : Int32)) + v6) 400 := vi_of (i_add (i_mul rfl (show (16 : Int32).toInt = 16 from rfl) (by omega) (by omega)) rfl (by omega) (by omega)) (by omega) (by omega)
            refine ⟨o22, ?_⟩
            have o23 : vp_in ((v1 * (16 : Int32)) + v6) 400 := vi_of (i_add (i_mul rfl (show (16 : Int32).toInt = 16 from rfl) (by omega) (by omega)) rfl (by omega) (by omega)) (by omega) (by omega)
            refine ⟨o23, ?_⟩
            intro L24 eL24
            intro x25 ex25
            have rx25 := i_rng x25
            first | (have tx25 : x25.toInt = v6.toInt + (-1) := by (rw [ex25]; exact (i_add rfl (show (-1 : Int32).toInt = -1 from rfl) (by omega) (by omega)))) | skip
            exact ih x25 I L24 w_I q_I   (by omega)  (by omega)
          · skip
            first | (have t26 : ¬ (v6.toInt ≤ v4.toInt) := (not_congr (i_le rfl rfl)).mp c19) | (have t26 : ¬ (v6.toInt ≤ v4.toInt) := (not_congr (i_le rfl rfl)).mp c19) | skip
            intro b27 eb27
            obtain rfl : b7 = b27 := Option.some.inj (eb7.symm.trans eb27)
            have o28 : vp_in ((((v2 * (16 : Int32)) + v6) - v4) - (1 : Int32)) 400 := vi_of (i_sub (i_sub (i_add (i_mul rfl (show (16 : Int32).toInt = 16 from rfl) (by omega) (by omega)) rfl (by omega) (by omega)) rfl (by omega) (by omega)) (show (1 : Int32).toInt = 1 from rfl) (by omega) (by omega)) (by omega) (by omega)
            refine ⟨o28, ?_⟩
            intro x29 ex29
            unfold f_X0_addReach_b88
            intro b30 eb30
            obtain rfl : b7 = b30 := Option.some.inj (eb7.symm.trans eb30)
            have o31 : vp_in ((v1 * (16 : Int32)) + v6) 400 := vi_of (i_add (i_mul rfl (show (16 : Int32).toInt = 16 from rfl) (by omega) (by omega)) rfl (by omega) (by omega)) (by omega) (by omega)
            refine ⟨o31, ?_⟩
            have o32 : vp_in ((v1 * (16 : Int32)) + v6) 400 := vi_of (i_add (i_mul rfl (show (16 : Int32).toInt = 16 from rfl) (by omega) (by omega)) rfl (by omega) (by omega)) (by omega) (by omega)
            refine ⟨o32, ?_⟩
            intro L33 eL33
            intro x34 ex34
            have rx34 := i_rng x34
            first | (have tx34 : x34.toInt = v6.toInt + (-1) := by (rw [ex34]; exact (i_add rfl (show (-1 : Int32).toInt = -1 from rfl) (by omega) (by omega)))) | skip
            exact ih x34 I L33 w_I q_I   (by omega)  (by omega)
set_option maxHeartbeats 4000000 in
set_option maxRecDepth 100000 in
theorem s_X0_addReach {Z : jZ} {I : jI} {L : jL} (w_I : WD Z I) (v0 : Nat) (v1 : Int32) (v2 : Int32) (v3 : Int32) (kv0 : jk Z v0 0) (p0 : 0 ≤ v1.toInt ∧ v1.toInt ≤ 24 ∧ 0 ≤ v2.toInt ∧ v2.toInt ≤ 24 ∧ 0 ≤ v3.toInt) {Q : jI → jL → Prop} (hQ : ∀  (I' : jI) (L' : jL), WD Z I' → FR Ws_X0_addReach Z I Z I' → Q I' L') : f_X0_addReach v0 v1 v2 v3 Z I L Q := by
  unfold f_X0_addReach
  have q_I : FR Ws_X0_addReach Z I Z I := FR.rf
  have rv1 := i_rng v1
  have rv2 := i_rng v2
  have rv3 := i_rng v3
  intro x35 ex35
  have rx35 := i_rng x35
  first | (have tx35 : x35.toInt = (v3.toInt / (64)) := by (rw [ex35]; exact (i_div rfl (show (64 : Int32).toInt = 64 from rfl) (by omega) (by omega)))) | (have tx35 : x35.toInt = (v3 / (64 : Int32)).toInt := by rw [ex35])
  intro x36 ex36
  have rx36 := i_rng x36
  first | (have tx36 : x36.toInt = (v3.toInt % (64)) := by (rw [ex36]; exact (i_rem rfl (show (64 : Int32).toInt = 64 from rfl) (by omega) (by omega)))) | (have tx36 : x36.toInt = (v3 - v3 / (64 : Int32) * (64 : Int32)).toInt := by rw [ex36])
  have t37 : (15 : Int32).toInt = 15 := rfl
  exact ⟨((15 : Int32).toInt + 1).toNat + 1, l_X0_addReach_L16 w_I v0 v1 v2 v3 kv0 p0 x35 x36  hQ   _ (15 : Int32) I L w_I q_I   (by omega)  (by omega)⟩
def Ws_X0_findReach : List (Nat × Nat) := []
set_option maxHeartbeats 4000000 in
set_option maxRecDepth 100000 in
theorem l_X0_findReach_L34 {Z : jZ} {I0 : jI} {Q : jI → jL → Prop} (w0 : WD Z I0) (v0 : Nat) (v1 : Nat) (kv0 : jk Z v0 0) (kv1 : jk Z v1 6) (v2 : Int32) (hQ : ∀  (I' : jI) (L' : jL), WD Z I' → FR Ws_X0_findReach Z I0 Z I' → Q I' L') {K28 : Nat → Nat → Int32 → jI → jL → Prop} {N28 : Int} (hK28 : ∀ (v2 : Int32) (I : jI) (L : jL), WD Z I → FR Ws_X0_findReach Z I0 Z I →   (-1 ≤ v2.toInt ∧ v2.toInt ≤ 23) → v2.toInt + 1 < N28 → K28 v0 v1 v2 I L) : ∀ (n : Nat) (v3 : Int32) (I : jI) (L : jL), WD Z I → FR Ws_X0_findReach Z I0 Z I →   (0 ≤ v2.toInt ∧ v2.toInt ≤ 23 ∧ 1 ≤ v3.toInt ∧ v3.toInt ≤ 4) → v2.toInt + 1 ≤ N28 → 4 - v3.toInt < (n : Int) → f_X0_findReach_L34 K28 Z Q n v0 v1 v2 v3 I L := by
  intro n
  induction n with
  | zero =>
    intro v3 I L w_I q_I   li hm28 me
    exfalso
    omega
  | succ n ih =>
    intro v3 I L w_I q_I   li hm28 me
    unfold f_X0_findReach_L34
    have rv3 := i_rng v3
    have rv2 := i_rng v2
    have t2 : 0 ≤ (I v1 3).toInt ∧ (I v1 3).toInt ≤ 3 := w_I.fld 6 3 kv1 (by decide)
    refine ⟨fun c3 => ?_, fun c3 => ?_⟩
    · skip
      first | (have t4 : (I v1 3).toInt < v3.toInt := (i_lt rfl rfl).mp c3) | (have t4 : (I v1 3).toInt < v3.toInt := (i_lt rfl rfl).mp c3) | skip
      unfold f_X0_findReach_b89
      intro x5 ex5
      have rx5 := i_rng x5
      first | (have tx5 : x5.toInt = v2.toInt + (-1) := by (rw [ex5]; exact (i_add rfl (show (-1 : Int32).toInt = -1 from rfl) (by omega) (by omega)))) | skip
      exact hK28 x5 I L w_I q_I   (by omega)  (by omega)
    · skip
      first | (have t6 : ¬ ((I v1 3).toInt < v3.toInt) := (not_congr (i_lt rfl rfl)).mp c3) | (have t6 : ¬ ((I v1 3).toInt < v3.toInt) := (not_congr (i_lt rfl rfl)).mp c3) | skip
      have t8 : 0 ≤ (I v1 15).toInt ∧ (I v1 15).toInt ≤ 24 := w_I.fld 6 15 kv1 (by decide)
      refine ⟨fun c9 => ?_, fun c9 => ?_⟩
      · skip
        first | (have t10 : (I v1 15).toInt < (v2.toInt + v3.toInt) := (i_lt rfl (i_add rfl rfl (by omega) (by omega))).mp c9) | (have t10 : (I v1 15).toInt < (v2 + v3).toInt := (i_lt rfl rfl).mp c9) | skip
        unfold f_X0_findReach_b89
        intro x11 ex11
        have rx11 := i_rng x11
        first | (have tx11 : x11.toInt = v2.toInt + (-1) := by (rw [ex11]; exact (i_add rfl (show (-1 : Int32).toInt = -1 from rfl) (by omega) (by omega)))) | skip
        exact hK28 x11 I L w_I q_I   (by omega)  (by omega)
      · skip
        first | (have t12 : ¬ ((I v1 15).toInt < (v2.toInt + v3.toInt)) := (not_congr (i_lt rfl (i_add rfl rfl (by omega) (by omega)))).mp c9) | (have t12 : ¬ ((I v1 15).toInt < (v2 + v3).toInt) := (not_congr (i_lt rfl rfl)).mp c9) | skip
        intro b13 eb13
        obtain ⟨x14, ex14, kb13, lb13⟩ := sh_f w_I.1 kv1 (j := 6) (k := 16) (m := 25) rfl
        cases eb13.symm.trans ex14
        have o15 : vp_in (v2 + v3) 25 := vi_of (i_add rfl rfl (by omega) (by omega)) (by omega) (by omega)
        refine ⟨o15, ?_⟩
        refine ⟨fun c16 => ?_, fun c16 => ?_⟩
        · skip
          first | (have t17 : (I b13 (v2 + v3).toNatClampNeg).toInt = (0) := (i_eq rfl (show (0 : Int32).toInt = 0 from rfl)).mp c16) | (have t17 : (I b13 (v2 + v3).toNatClampNeg).toInt = (0 : Int32).toInt := (i_eq rfl rfl).mp c16) | skip
          unfold f_X0_findReach_b83
          intro x18 ex18
          have rx18 := i_rng x18
          first | (have tx18 : x18.toInt = v3.toInt + (1) := by (rw [ex18]; exact (i_add rfl (show (1 : Int32).toInt = 1 from rfl) (by omega) (by omega)))) | skip
          exact ih x18 I L w_I q_I   (by omega) (by omega) (by omega)
        · skip
          first | (have t19 : ¬ ((I b13 (v2 + v3).toNatClampNeg).toInt = (0)) := (not_congr (i_eq rfl (show (0 : Int32).toInt = 0 from rfl))).mp c16) | (have t19 : ¬ ((I b13 (v2 + v3).toNatClampNeg).toInt = (0 : Int32).toInt) := (not_congr (i_eq rfl rfl)).mp c16) | skip
          intro b20 eb20
          obtain ⟨x21, ex21, kb20, lb20⟩ := sh_f w_I.1 kv1 (j := 4) (k := 14) (m := 75) rfl
          cases eb20.symm.trans ex21
          try (have t22 : (v2 + v3).toInt = (v2.toInt + v3.toInt) := (i_add rfl rfl (by omega) (by omega)))
          refine s_X6_moveTo w_I (v2 + v3) v3   (by omega) (fun r23 p24 => ?_)
          have rr23 := i_rng r23
          have o25 : vp_in r23 75 := vi_of rfl (by omega) (by omega)
          refine ⟨o25, ?_⟩
          have t26 : 0 ≤ (I b20 r23.toNatClampNeg).toInt ∧ (I b20 r23.toNatClampNeg).toInt ≤ 297 := w_I.arr 6 4 kv1 eb20 kb20 rfl rfl _
          try (have t27 : (v2 + v3).toInt = (v2.toInt + v3.toInt) := (i_add rfl rfl (by omega) (by omega)))
          refine s_X0_addReach w_I v0 v2 (v2 + v3) (I b20 r23.toNatClampNeg) kv0  (by omega) (fun  I28 L29 w_I28 f_I28  => ?_)
          have q_I28 : FR Ws_X0_findReach Z I0 Z I28 := q_I.trans w0.1 w0.2.1 (f_I28.mono (by decide))
          have u30 : (I28 v1 3).toInt = (I v1 3).toInt := by rw [f_I28.2.2.1 v1 6 3 kv1 (by decide) (by decide)]
          have u31 : (I28 v1 15).toInt = (I v1 15).toInt := by rw [f_I28.2.2.1 v1 6 15 kv1 (by decide) (by decide)]
          unfold f_X0_findReach_b83
          intro x32 ex32
          have rx32 := i_rng x32
          first | (have tx32 : x32.toInt = v3.toInt + (1) := by (rw [ex32]; exact (i_add rfl (show (1 : Int32).toInt = 1 from rfl) (by omega) (by omega)))) | skip
          exact ih x32 I28 L29 w_I28 q_I28   (by omega) (by omega) (by omega)
set_option maxHeartbeats 4000000 in
set_option maxRecDepth 100000 in
theorem l_X0_findReach_L28 {Z : jZ} {I0 : jI} {Q : jI → jL → Prop} (w0 : WD Z I0) (v0 : Nat) (v1 : Nat) (kv0 : jk Z v0 0) (kv1 : jk Z v1 6) (hQ : ∀  (I' : jI) (L' : jL), WD Z I' → FR Ws_X0_findReach Z I0 Z I' → Q I' L') : ∀ (n : Nat) (v2 : Int32) (I : jI) (L : jL), WD Z I → FR Ws_X0_findReach Z I0 Z I →   (-1 ≤ v2.toInt ∧ v2.toInt ≤ 23) → v2.toInt + 1 < (n : Int) → f_X0_findReach_L28  Z Q n v0 v1 v2 I L := by
  intro n
  induction n with
  | zero =>
    intro v2 I L w_I q_I   li  me
    exfalso
    omega
  | succ n ih =>
    intro v2 I L w_I q_I   li  me
    unfold f_X0_findReach_L28
    have rv2 := i_rng v2
    refine ⟨fun c33 => ?_, fun c33 => ?_⟩
    · skip
      first | (have t34 : v2.toInt < (0) := (i_lt rfl (show (0 : Int32).toInt = 0 from rfl)).mp c33) | (have t34 : v2.toInt < (0 : Int32).toInt := (i_lt rfl rfl).mp c33) | skip
      exact hQ  I L w_I q_I 
    · skip
      first | (have t35 : ¬ (v2.toInt < (0)) := (not_congr (i_lt rfl (show (0 : Int32).toInt = 0 from rfl))).mp c33) | (have t35 : ¬ (v2.toInt < (0 : Int32).toInt) := (not_congr (i_lt rfl rfl)).mp c33) | skip
      have t36 : (1 : Int32).toInt = 1 := rfl
      exact ⟨(4 - (1 : Int32).toInt).toNat + 1, l_X0_findReach_L34 w0 v0 v1 kv0 kv1 v2  hQ ih  _ (1 : Int32) I L w_I q_I   (by omega) (by omega) (by omega)⟩
set_option maxHeartbeats 4000000 in
set_option maxRecDepth 100000 in
theorem s_X0_findReach {Z : jZ} {I : jI} {L : jL} (w_I : WD Z I) (v0 : Nat) (v1 : Nat) (kv0 : jk Z v0 0) (kv1 : jk Z v1 6) {Q : jI → jL → Prop} (hQ : ∀  (I' : jI) (L' : jL), WD Z I' → FR Ws_X0_findReach Z I Z I' → Q I' L') : f_X0_findReach v0 v1 Z I L Q := by
  unfold f_X0_findReach
  have q_I : FR Ws_X0_findReach Z I Z I := FR.rf
  intro b37 eb37
  obtain ⟨x38, ex38, kb37, lb37⟩ := sh_f w_I.1 kv0 (j := 1) (k := 15) (m := 400) rfl
  cases eb37.symm.trans ex38
  refine s_J7_fill_d0a16 w_I b37 (0 : Int64) kb37  (by omega) (fun  I39 L40 w_I39 f_I39  => ?_)
  have q_I39 : FR Ws_X0_findReach Z I Z I39 := q_I.trans w_I.1 w_I.2.1 (f_I39.mono (by decide))
  intro b41 eb41
  obtain rfl : b37 = b41 := Option.some.inj (eb37.symm.trans eb41)
  have t43 : 0 ≤ (I39 v1 15).toInt ∧ (I39 v1 15).toInt ≤ 24 := w_I39.fld 6 15 kv1 (by decide)
  have o44 : vp_in ((I39 v1 15) * (16 : Int32)) 400 := vi_of (i_mul rfl (show (16 : Int32).toInt = 16 from rfl) (by omega) (by omega)) (by omega) (by omega)
  refine ⟨o44, ?_⟩
  intro L45 eL45
  have t47 : 0 ≤ (I39 v1 15).toInt ∧ (I39 v1 15).toInt ≤ 24 := w_I39.fld 6 15 kv1 (by decide)
  intro x48 ex48
  have rx48 := i_rng x48
  first | (have tx48 : x48.toInt = ((I39 v1 15).toInt - (1)) := by (rw [ex48]; exact (i_sub rfl (show (1 : Int32).toInt = 1 from rfl) (by omega) (by omega)))) | (have tx48 : x48.toInt = ((I39 v1 15) - (1 : Int32)).toInt := by rw [ex48])
  exact ⟨(x48.toInt + 1).toNat + 1, l_X0_findReach_L28 w_I v0 v1 kv0 kv1   hQ   _ x48 I39 L45 w_I39 q_I39   (by omega)  (by omega)⟩
set_option maxHeartbeats 4000000 in
set_option maxRecDepth 100000 in
theorem s_X0_isInReach {Z : jZ} {I : jI} {L : jL} (w_I : WD Z I) (v0 : Nat) (v1 : Int32) (v2 : Int32) (kv0 : jk Z v0 0) (p0 : 0 ≤ v1.toInt ∧ v1.toInt ≤ 24 ∧ 0 ≤ v2.toInt) {Q : Int32 → jI → jL → Prop} (hQ : ∀ (r : Int32), Q r I L) : f_X0_isInReach v0 v1 v2 Z I L Q := by
  unfold f_X0_isInReach
  have rv1 := i_rng v1
  have rv2 := i_rng v2
  intro x1 ex1
  have rx1 := i_rng x1
  first | (have tx1 : x1.toInt = (v2.toInt / (64)) := by (rw [ex1]; exact (i_div rfl (show (64 : Int32).toInt = 64 from rfl) (by omega) (by omega)))) | (have tx1 : x1.toInt = (v2 / (64 : Int32)).toInt := by rw [ex1])
  refine ⟨fun c2 => ?_, fun c2 => ?_⟩
  · skip
    first | (have t3 : (16) ≤ x1.toInt := (i_le (show (16 : Int32).toInt = 16 from rfl) rfl).mp c2) | (have t3 : (16 : Int32).toInt ≤ x1.toInt := (i_le rfl rfl).mp c2) | skip
    have t4 : (0 : Int32).toInt = 0 := rfl
    exact hQ (0 : Int32) 
  · skip
    first | (have t5 : ¬ ((16) ≤ x1.toInt) := (not_congr (i_le (show (16 : Int32).toInt = 16 from rfl) rfl)).mp c2) | (have t5 : ¬ ((16 : Int32).toInt ≤ x1.toInt) := (not_congr (i_le rfl rfl)).mp c2) | skip
    intro b6 eb6
    obtain ⟨x7, ex7, kb6, lb6⟩ := sh_f w_I.1 kv0 (j := 1) (k := 15) (m := 400) rfl
    cases eb6.symm.trans ex7
    have o8 : vp_in ((v1 * (16 : Int32)) + x1) 400 := vi_of (i_add (i_mul rfl (show (16 : Int32).toInt = 16 from rfl) (by omega) (by omega)) rfl (by omega) (by omega)) (by omega) (by omega)
    refine ⟨o8, ?_⟩
    refine ⟨fun c9 => ?_, fun c9 => ?_⟩
    · skip
      first | (have t10 : (lg_cmp ((((L b6 ((v1 * (16 : Int32)) + x1).toNatClampNeg).toUInt64 >>> ((v2 - v2 / (64 : Int32) * (64 : Int32)).toInt64.toUInt64 &&& Int64.toUInt64 63)).toInt64) &&& (1 : Int64)) (0 : Int64)).toInt = (0) := (i_eq rfl (show (0 : Int32).toInt = 0 from rfl)).mp c9) | (have t10 : (lg_cmp ((((L b6 ((v1 * (16 : Int32)) + x1).toNatClampNeg).toUInt64 >>> ((v2 - v2 / (64 : Int32) * (64 : Int32)).toInt64.toUInt64 &&& Int64.toUInt64 63)).toInt64) &&& (1 : Int64)) (0 : Int64)).toInt = (0 : Int32).toInt := (i_eq rfl rfl).mp c9) | skip
      have t11 : (0 : Int32).toInt = 0 := rfl
      exact hQ (0 : Int32) 
    · skip
      first | (have t12 : ¬ ((lg_cmp ((((L b6 ((v1 * (16 : Int32)) + x1).toNatClampNeg).toUInt64 >>> ((v2 - v2 / (64 : Int32) * (64 : Int32)).toInt64.toUInt64 &&& Int64.toUInt64 63)).toInt64) &&& (1 : Int64)) (0 : Int64)).toInt = (0)) := (not_congr (i_eq rfl (show (0 : Int32).toInt = 0 from rfl))).mp c9) | (have t12 : ¬ ((lg_cmp ((((L b6 ((v1 * (16 : Int32)) + x1).toNatClampNeg).toUInt64 >>> ((v2 - v2 / (64 : Int32) * (64 : Int32)).toInt64.toUInt64 &&& Int64.toUInt64 63)).toInt64) &&& (1 : Int64)) (0 : Int64)).toInt = (0 : Int32).toInt) := (not_congr (i_eq rfl rfl)).mp c9) | skip
      have t13 : (1 : Int32).toInt = 1 := rfl
      exact hQ (1 : Int32) 
def Ws_X6_measure : List (Nat × Nat) := [(3, 2), (6, 4), (6, 5), (8, 8)]
set_option maxHeartbeats 4000000 in
set_option maxRecDepth 100000 in
theorem l_X6_measure_L22 {Z : jZ} {I0 : jI} {Q : jI → jL → Prop} (w0 : WD Z I0) (v0 : Nat) (v1 : Int32) (v2 : Int32) (kv0 : jk Z v0 6) (v3 : Int32) (hQ : ∀  (I' : jI) (L' : jL), WD Z I' → FR Ws_X6_measure Z I0 Z I' → Q I' L') {K6 : Nat → Int32 → Int32 → jI → jL → Prop} {N6 : Int} (hK6 : ∀ (v3 : Int32) (I : jI) (L : jL), WD Z I → FR Ws_X6_measure Z I0 Z I →   (1 ≤ v3.toInt) → max 0 (25 - v3.toInt) < N6 → K6 v0 v2 v3 I L) : ∀ (n : Nat) (v4 : Int32) (I : jI) (L : jL), WD Z I → FR Ws_X6_measure Z I0 Z I →   (1 ≤ v3.toInt ∧ v3.toInt ≤ 24 ∧ 1 ≤ v4.toInt ∧ v4.toInt ≤ 4) → max 0 (25 - v3.toInt) ≤ N6 → 4 - v4.toInt < (n : Int) → f_X6_measure_L22 K6 Z Q n v0 v2 v3 v4 I L := by
  intro n
  induction n with
  | zero =>
    intro v4 I L w_I q_I   li hm6 me
    exfalso
    omega
  | succ n ih =>
    intro v4 I L w_I q_I   li hm6 me
    unfold f_X6_measure_L22
    have rv4 := i_rng v4
    have rv3 := i_rng v3
    have rv1 := i_rng v1
    have rv2 := i_rng v2
    have t2 : 0 ≤ (I v0 3).toInt ∧ (I v0 3).toInt ≤ 3 := w_I.fld 6 3 kv0 (by decide)
    refine ⟨fun c3 => ?_, fun c3 => ?_⟩
    · skip
      first | (have t4 : (I v0 3).toInt < v4.toInt := (i_lt rfl rfl).mp c3) | (have t4 : (I v0 3).toInt < v4.toInt := (i_lt rfl rfl).mp c3) | skip
      unfold f_X6_measure_b114
      intro x5 ex5
      have rx5 := i_rng x5
      first | (have tx5 : x5.toInt = v3.toInt + (1) := by (rw [ex5]; exact (i_add rfl (show (1 : Int32).toInt = 1 from rfl) (by omega) (by omega)))) | skip
      exact hK6 x5 I L w_I q_I   (by omega)  (by omega)
    · skip
      first | (have t6 : ¬ ((I v0 3).toInt < v4.toInt) := (not_congr (i_lt rfl rfl)).mp c3) | (have t6 : ¬ ((I v0 3).toInt < v4.toInt) := (not_congr (i_lt rfl rfl)).mp c3) | skip
      refine ⟨fun c7 => ?_, fun c7 => ?_⟩
      · skip
        first | (have t8 : v3.toInt < v4.toInt := (i_lt rfl rfl).mp c7) | (have t8 : v3.toInt < v4.toInt := (i_lt rfl rfl).mp c7) | skip
        unfold f_X6_measure_b114
        intro x9 ex9
        have rx9 := i_rng x9
        first | (have tx9 : x9.toInt = v3.toInt + (1) := by (rw [ex9]; exact (i_add rfl (show (1 : Int32).toInt = 1 from rfl) (by omega) (by omega)))) | skip
        exact hK6 x9 I L w_I q_I   (by omega)  (by omega)
      · skip
        first | (have t10 : ¬ (v3.toInt < v4.toInt) := (not_congr (i_lt rfl rfl)).mp c7) | (have t10 : ¬ (v3.toInt < v4.toInt) := (not_congr (i_lt rfl rfl)).mp c7) | skip
        intro b11 eb11
        obtain ⟨x12, ex12, kb11, lb11⟩ := sh_f w_I.1 kv0 (j := 6) (k := 16) (m := 25) rfl
        cases eb11.symm.trans ex12
        have o13 : vp_in v3 25 := vi_of rfl (by omega) (by omega)
        refine ⟨o13, ?_⟩
        refine ⟨fun c14 => ?_, fun c14 => ?_⟩
        · skip
          first | (have t15 : (I b11 v3.toNatClampNeg).toInt = (0) := (i_eq rfl (show (0 : Int32).toInt = 0 from rfl)).mp c14) | (have t15 : (I b11 v3.toNatClampNeg).toInt = (0 : Int32).toInt := (i_eq rfl rfl).mp c14) | skip
          unfold f_X6_measure_b114
          intro x16 ex16
          have rx16 := i_rng x16
          first | (have tx16 : x16.toInt = v3.toInt + (1) := by (rw [ex16]; exact (i_add rfl (show (1 : Int32).toInt = 1 from rfl) (by omega) (by omega)))) | skip
          exact hK6 x16 I L w_I q_I   (by omega)  (by omega)
        · skip
          first | (have t17 : ¬ ((I b11 v3.toNatClampNeg).toInt = (0)) := (not_congr (i_eq rfl (show (0 : Int32).toInt = 0 from rfl))).mp c14) | (have t17 : ¬ ((I b11 v3.toNatClampNeg).toInt = (0 : Int32).toInt) := (not_congr (i_eq rfl rfl)).mp c14) | skip
          refine s_X6_moveTo w_I v3 v4   (by omega) (fun r18 p19 => ?_)
          have rr18 := i_rng r18
          intro b20 eb20
          obtain ⟨x21, ex21, kb20, lb20⟩ := sh_f w_I.1 kv0 (j := 4) (k := 14) (m := 75) rfl
          cases eb20.symm.trans ex21
          intro b22 eb22
          obtain ⟨x23, ex23, kb22⟩ := sh_o w_I.1 kv0 (j := 0) (k := 8) rfl
          cases eb22.symm.trans ex23
          try (have t24 : ((v3 - v4) - (1 : Int32)).toInt = ((v3.toInt - v4.toInt) - (1)) := (i_sub (i_sub rfl rfl (by omega) (by omega)) (show (1 : Int32).toInt = 1 from rfl) (by omega) (by omega)))
          try (have t25 : (v3 - (1 : Int32)).toInt = (v3.toInt - (1)) := (i_sub rfl (show (1 : Int32).toInt = 1 from rfl) (by omega) (by omega)))
          refine s_X8_costOfMove w_I b22 ((v3 - v4) - (1 : Int32)) (v3 - (1 : Int32)) (I v0 14) kb22  (by omega) (fun r26 I28 L29 w_I28 f_I28 p27 => ?_)
          have q_I28 : FR Ws_X6_measure Z I0 Z I28 := q_I.trans w0.1 w0.2.1 (f_I28.mono (by decide))
          have u30 : (I28 v0 3).toInt = (I v0 3).toInt := by rw [f_I28.2.2.1 v0 6 3 kv0 (by decide) (by decide)]
          have u31 : (I28 v0 14).toInt = (I v0 14).toInt := by rw [f_I28.2.2.1 v0 6 14 kv0 (by decide) (by decide)]
          have rr26 := i_rng r26
          have o32 : vp_in r18 75 := vi_of rfl (by omega) (by omega)
          refine ⟨o32, ?_⟩
          intro I33 eI33
          have w_I33 : WD Z I33 := by rw [eI33]; exact WD_putA w_I28 6 4 kv0 eb20 kb20 rfl rfl (by decide) (by constructor <;> omega)
          have f_I33 : FR [(6, 4)] Z I28 Z I33 := by rw [eI33]; exact FR_upA w_I28.2.1 kv0 eb20 kb20 rfl rfl List.mem_cons_self
          have q_I33 : FR Ws_X6_measure Z I0 Z I33 := q_I28.trans w0.1 w0.2.1 (f_I33.mono (by decide))
          have u34 : (I33 v0 3).toInt = (I28 v0 3).toInt := by rw [f_I33.2.2.1 v0 6 3 kv0 (by decide) (by decide)]
          have u35 : (I33 v0 14).toInt = (I28 v0 14).toInt := by rw [f_I33.2.2.1 v0 6 14 kv0 (by decide) (by decide)]
          intro b36 eb36
          obtain ⟨x37, ex37, kb36, lb36⟩ := sh_f w_I33.1 kv0 (j := 5) (k := 14) (m := 75) rfl
          cases eb36.symm.trans ex37
          intro b38 eb38
          obtain rfl : b22 = b38 := Option.some.inj (eb22.symm.trans eb38)
          try (have t39 : ((v3 - v4) - (1 : Int32)).toInt = ((v3.toInt - v4.toInt) - (1)) := (i_sub (i_sub rfl rfl (by omega) (by omega)) (show (1 : Int32).toInt = 1 from rfl) (by omega) (by omega)))
          try (have t40 : (v3 - (1 : Int32)).toInt = (v3.toInt - (1)) := (i_sub rfl (show (1 : Int32).toInt = 1 from rfl) (by omega) (by omega)))
          refine s_X8_effortOfMove w_I33 b22 ((v3 - v4) - (1 : Int32)) (v3 - (1 : Int32)) (I33 v0 14) kb22  (by omega) (fun r41  => ?_)
          have rr41 := i_rng r41
          have o42 : vp_in r18 75 := vi_of rfl (by omega) (by omega)
          refine ⟨o42, ?_⟩
          intro I43 eI43
          have w_I43 : WD Z I43 := by rw [eI43]; exact WD_putA w_I33 6 5 kv0 eb36 kb36 rfl rfl (by decide) trivial
          have f_I43 : FR [(6, 5)] Z I33 Z I43 := by rw [eI43]; exact FR_upA w_I33.2.1 kv0 eb36 kb36 rfl rfl List.mem_cons_self
          have q_I43 : FR Ws_X6_measure Z I0 Z I43 := q_I33.trans w0.1 w0.2.1 (f_I43.mono (by decide))
          have u44 : (I43 v0 3).toInt = (I33 v0 3).toInt := by rw [f_I43.2.2.1 v0 6 3 kv0 (by decide) (by decide)]
          have u45 : (I43 v0 14).toInt = (I33 v0 14).toInt := by rw [f_I43.2.2.1 v0 6 14 kv0 (by decide) (by decide)]
          intro x46 ex46
          have rx46 := i_rng x46
          first | (have tx46 : x46.toInt = v4.toInt + (1) := by (rw [ex46]; exact (i_add rfl (show (1 : Int32).toInt = 1 from rfl) (by omega) (by omega)))) | skip
          exact ih x46 I43 L29 w_I43 q_I43   (by omega) (by omega) (by omega)
set_option maxHeartbeats 4000000 in
set_option maxRecDepth 100000 in
theorem l_X6_measure_L6 {Z : jZ} {I0 : jI} {Q : jI → jL → Prop} (w0 : WD Z I0) (v0 : Nat) (v1 : Int32) (v2 : Int32) (kv0 : jk Z v0 6) (hQ : ∀  (I' : jI) (L' : jL), WD Z I' → FR Ws_X6_measure Z I0 Z I' → Q I' L') : ∀ (n : Nat) (v3 : Int32) (I : jI) (L : jL), WD Z I → FR Ws_X6_measure Z I0 Z I →   (1 ≤ v3.toInt) → max 0 (25 - v3.toInt) < (n : Int) → f_X6_measure_L6  Z Q n v0 v2 v3 I L := by
  intro n
  induction n with
  | zero =>
    intro v3 I L w_I q_I   li  me
    exfalso
    omega
  | succ n ih =>
    intro v3 I L w_I q_I   li  me
    unfold f_X6_measure_L6
    have rv3 := i_rng v3
    have rv1 := i_rng v1
    have rv2 := i_rng v2
    refine ⟨fun c47 => ?_, fun c47 => ?_⟩
    · skip
      first | (have t48 : v2.toInt < v3.toInt := (i_lt rfl rfl).mp c47) | (have t48 : v2.toInt < v3.toInt := (i_lt rfl rfl).mp c47) | skip
      exact hQ  I L w_I q_I 
    · skip
      first | (have t49 : ¬ (v2.toInt < v3.toInt) := (not_congr (i_lt rfl rfl)).mp c47) | (have t49 : ¬ (v2.toInt < v3.toInt) := (not_congr (i_lt rfl rfl)).mp c47) | skip
      have t51 : 0 ≤ (I v0 15).toInt ∧ (I v0 15).toInt ≤ 24 := w_I.fld 6 15 kv0 (by decide)
      refine ⟨fun c52 => ?_, fun c52 => ?_⟩
      · skip
        first | (have t53 : (I v0 15).toInt < v3.toInt := (i_lt rfl rfl).mp c52) | (have t53 : (I v0 15).toInt < v3.toInt := (i_lt rfl rfl).mp c52) | skip
        exact hQ  I L w_I q_I 
      · skip
        first | (have t54 : ¬ ((I v0 15).toInt < v3.toInt) := (not_congr (i_lt rfl rfl)).mp c52) | (have t54 : ¬ ((I v0 15).toInt < v3.toInt) := (not_congr (i_lt rfl rfl)).mp c52) | skip
        have t55 : (1 : Int32).toInt = 1 := rfl
        exact ⟨(4 - (1 : Int32).toInt).toNat + 1, l_X6_measure_L22 w0 v0 v1 v2 kv0 v3  hQ ih  _ (1 : Int32) I L w_I q_I   (by omega) (by omega) (by omega)⟩
set_option maxHeartbeats 4000000 in
set_option maxRecDepth 100000 in
theorem s_X6_measure {Z : jZ} {I : jI} {L : jL} (w_I : WD Z I) (v0 : Nat) (v1 : Int32) (v2 : Int32) (kv0 : jk Z v0 6) {Q : jI → jL → Prop} (hQ : ∀  (I' : jI) (L' : jL), WD Z I' → FR Ws_X6_measure Z I Z I' → Q I' L') : f_X6_measure v0 v1 v2 Z I L Q := by
  unfold f_X6_measure
  have q_I : FR Ws_X6_measure Z I Z I := FR.rf
  have rv1 := i_rng v1
  have rv2 := i_rng v2
  intro x56 ex56
  have rx56 := i_rng x56
  first | (have tx56 : x56.toInt = (max v1.toInt (1)) := by (rw [ex56]; exact (i_max rfl (show (1 : Int32).toInt = 1 from rfl)))) | (have tx56 : x56.toInt = (if v1 < (1 : Int32) then (1 : Int32) else v1).toInt := by rw [ex56])
  exact ⟨(max 0 (25 - x56.toInt)).toNat + 1, l_X6_measure_L6 w_I v0 v1 v2 kv0   hQ   _ x56 I L w_I q_I   (by omega)  (by omega)⟩
set_option maxHeartbeats 4000000 in
set_option maxRecDepth 100000 in
theorem l_X6_leastEffortUp_L26 {Z : jZ} {I : jI} {L : jL} {Q : Int32 → jI → jL → Prop} (w_I : WD Z I) (v0 : Nat) (v1 : Int32) (kv0 : jk Z v0 6) (p0 : 0 ≤ v1.toInt ∧ v1.toInt ≤ 24) (hQ : ∀ (r : Int32), Q r I L) : ∀ (n : Nat) (v2 : Int32) (v3 : Int32) ,   (1 ≤ v3.toInt ∧ v3.toInt ≤ 4) → 4 - v3.toInt < (n : Int) → f_X6_leastEffortUp_L26  Z Q n v0 v1 v2 v3 I L := by
  intro n
  induction n with
  | zero =>
    intro v2 v3   li  me
    exfalso
    omega
  | succ n ih =>
    intro v2 v3   li  me
    unfold f_X6_leastEffortUp_L26
    have rv2 := i_rng v2
    have rv3 := i_rng v3
    have rv1 := i_rng v1
    have t2 : 0 ≤ (I v0 3).toInt ∧ (I v0 3).toInt ≤ 3 := w_I.fld 6 3 kv0 (by decide)
    refine ⟨fun c3 => ?_, fun c3 => ?_⟩
    · skip
      first | (have t4 : (I v0 3).toInt < v3.toInt := (i_lt rfl rfl).mp c3) | (have t4 : (I v0 3).toInt < v3.toInt := (i_lt rfl rfl).mp c3) | skip
      exact hQ v2 
    · skip
      first | (have t5 : ¬ ((I v0 3).toInt < v3.toInt) := (not_congr (i_lt rfl rfl)).mp c3) | (have t5 : ¬ ((I v0 3).toInt < v3.toInt) := (not_congr (i_lt rfl rfl)).mp c3) | skip
      have t7 : 0 ≤ (I v0 15).toInt ∧ (I v0 15).toInt ≤ 24 := w_I.fld 6 15 kv0 (by decide)
      refine ⟨fun c8 => ?_, fun c8 => ?_⟩
      · skip
        first | (have t9 : (I v0 15).toInt < (v1.toInt + v3.toInt) := (i_lt rfl (i_add rfl rfl (by omega) (by omega))).mp c8) | (have t9 : (I v0 15).toInt < (v1 + v3).toInt := (i_lt rfl rfl).mp c8) | skip
        exact hQ v2 
      · skip
        first | (have t10 : ¬ ((I v0 15).toInt < (v1.toInt + v3.toInt)) := (not_congr (i_lt rfl (i_add rfl rfl (by omega) (by omega)))).mp c8) | (have t10 : ¬ ((I v0 15).toInt < (v1 + v3).toInt) := (not_congr (i_lt rfl rfl)).mp c8) | skip
        intro b11 eb11
        obtain ⟨x12, ex12, kb11, lb11⟩ := sh_f w_I.1 kv0 (j := 6) (k := 16) (m := 25) rfl
        cases eb11.symm.trans ex12
        have o13 : vp_in v1 25 := vi_of rfl (by omega) (by omega)
        refine ⟨o13, ?_⟩
        refine ⟨fun c14 => ?_, fun c14 => ?_⟩
        · skip
          first | (have t15 : (I b11 v1.toNatClampNeg).toInt = (0) := (i_eq rfl (show (0 : Int32).toInt = 0 from rfl)).mp c14) | (have t15 : (I b11 v1.toNatClampNeg).toInt = (0 : Int32).toInt := (i_eq rfl rfl).mp c14) | skip
          unfold f_X6_leastEffortUp_b90
          intro x16 ex16
          have rx16 := i_rng x16
          first | (have tx16 : x16.toInt = v3.toInt + (1) := by (rw [ex16]; exact (i_add rfl (show (1 : Int32).toInt = 1 from rfl) (by omega) (by omega)))) | skip
          exact ih v2 x16   (by omega)  (by omega)
        · skip
          first | (have t17 : ¬ ((I b11 v1.toNatClampNeg).toInt = (0)) := (not_congr (i_eq rfl (show (0 : Int32).toInt = 0 from rfl))).mp c14) | (have t17 : ¬ ((I b11 v1.toNatClampNeg).toInt = (0 : Int32).toInt) := (not_congr (i_eq rfl rfl)).mp c14) | skip
          intro b18 eb18
          obtain rfl : b11 = b18 := Option.some.inj (eb11.symm.trans eb18)
          have o19 : vp_in (v1 + v3) 25 := vi_of (i_add rfl rfl (by omega) (by omega)) (by omega) (by omega)
          refine ⟨o19, ?_⟩
          refine ⟨fun c20 => ?_, fun c20 => ?_⟩
          · skip
            first | (have t21 : (I b11 (v1 + v3).toNatClampNeg).toInt = (0) := (i_eq rfl (show (0 : Int32).toInt = 0 from rfl)).mp c20) | (have t21 : (I b11 (v1 + v3).toNatClampNeg).toInt = (0 : Int32).toInt := (i_eq rfl rfl).mp c20) | skip
            unfold f_X6_leastEffortUp_b90
            intro x22 ex22
            have rx22 := i_rng x22
            first | (have tx22 : x22.toInt = v3.toInt + (1) := by (rw [ex22]; exact (i_add rfl (show (1 : Int32).toInt = 1 from rfl) (by omega) (by omega)))) | skip
            exact ih v2 x22   (by omega)  (by omega)
          · skip
            first | (have t23 : ¬ ((I b11 (v1 + v3).toNatClampNeg).toInt = (0)) := (not_congr (i_eq rfl (show (0 : Int32).toInt = 0 from rfl))).mp c20) | (have t23 : ¬ ((I b11 (v1 + v3).toNatClampNeg).toInt = (0 : Int32).toInt) := (not_congr (i_eq rfl rfl)).mp c20) | skip
            intro b24 eb24
            obtain ⟨x25, ex25, kb24, lb24⟩ := sh_f w_I.1 kv0 (j := 5) (k := 14) (m := 75) rfl
            cases eb24.symm.trans ex25
            try (have t26 : (v1 + v3).toInt = (v1.toInt + v3.toInt) := (i_add rfl rfl (by omega) (by omega)))
            refine s_X6_moveTo w_I (v1 + v3) v3   (by omega) (fun r27 p28 => ?_)
            have rr27 := i_rng r27
            have o29 : vp_in r27 75 := vi_of rfl (by omega) (by omega)
            refine ⟨o29, ?_⟩
            intro b30 eb30
            obtain ⟨x31, ex31, kb30, lb30⟩ := sh_f w_I.1 kv0 (j := 7) (k := 14) (m := 25) rfl
            cases eb30.symm.trans ex31
            have o32 : vp_in (v1 + v3) 25 := vi_of (i_add rfl rfl (by omega) (by omega)) (by omega) (by omega)
            refine ⟨o32, ?_⟩
            intro x33 ex33
            have rx33 := i_rng x33
            first | (have tx33 : x33.toInt = (min v2.toInt ((I b24 r27.toNatClampNeg).toInt + (I b30 (v1 + v3).toNatClampNeg).toInt)) := by (rw [ex33]; exact (i_min rfl (i_add rfl rfl (by omega) (by omega))))) | (have tx33 : x33.toInt = (if ((I b24 r27.toNatClampNeg) + (I b30 (v1 + v3).toNatClampNeg)) < v2 then ((I b24 r27.toNatClampNeg) + (I b30 (v1 + v3).toNatClampNeg)) else v2).toInt := by rw [ex33])
            unfold f_X6_leastEffortUp_b90
            intro x34 ex34
            have rx34 := i_rng x34
            first | (have tx34 : x34.toInt = v3.toInt + (1) := by (rw [ex34]; exact (i_add rfl (show (1 : Int32).toInt = 1 from rfl) (by omega) (by omega)))) | skip
            exact ih x33 x34   (by omega)  (by omega)
set_option maxHeartbeats 4000000 in
set_option maxRecDepth 100000 in
theorem s_X6_leastEffortUp {Z : jZ} {I : jI} {L : jL} (w_I : WD Z I) (v0 : Nat) (v1 : Int32) (kv0 : jk Z v0 6) (p0 : 0 ≤ v1.toInt ∧ v1.toInt ≤ 24) {Q : Int32 → jI → jL → Prop} (hQ : ∀ (r : Int32), Q r I L) : f_X6_leastEffortUp v0 v1 Z I L Q := by
  unfold f_X6_leastEffortUp
  have rv1 := i_rng v1
  have t36 : 0 ≤ (I v0 15).toInt ∧ (I v0 15).toInt ≤ 24 := w_I.fld 6 15 kv0 (by decide)
  refine ⟨fun c37 => ?_, fun c37 => ?_⟩
  · skip
    first | (have t38 : ¬ (v1.toInt = (I v0 15).toInt) := (not_congr (i_eq rfl rfl)).mp c37) | (have t38 : ¬ (v1.toInt = (I v0 15).toInt) := (not_congr (i_eq rfl rfl)).mp c37) | skip
    unfold f_X6_leastEffortUp_b21
    unfold f_X6_leastEffortUp_b23
    have t39 : (1048576 : Int32).toInt = 1048576 := rfl
    have t40 : (1 : Int32).toInt = 1 := rfl
    exact ⟨(4 - (1 : Int32).toInt).toNat + 1, l_X6_leastEffortUp_L26 w_I v0 v1 kv0 p0   hQ   _ (1048576 : Int32) (1 : Int32)   (by omega)  (by omega)⟩
  · skip
    first | (have t41 : v1.toInt = (I v0 15).toInt := (i_eq rfl rfl).mp c37) | (have t41 : v1.toInt = (I v0 15).toInt := (i_eq rfl rfl).mp c37) | skip
    intro b42 eb42
    obtain ⟨x43, ex43, kb42, lb42⟩ := sh_f w_I.1 kv0 (j := 6) (k := 16) (m := 25) rfl
    cases eb42.symm.trans ex43
    have o44 : vp_in v1 25 := vi_of rfl (by omega) (by omega)
    refine ⟨o44, ?_⟩
    refine ⟨fun c45 => ?_, fun c45 => ?_⟩
    · skip
      first | (have t46 : (I b42 v1.toNatClampNeg).toInt = (0) := (i_eq rfl (show (0 : Int32).toInt = 0 from rfl)).mp c45) | (have t46 : (I b42 v1.toNatClampNeg).toInt = (0 : Int32).toInt := (i_eq rfl rfl).mp c45) | skip
      unfold f_X6_leastEffortUp_b21
      unfold f_X6_leastEffortUp_b23
      have t47 : (1048576 : Int32).toInt = 1048576 := rfl
      have t48 : (1 : Int32).toInt = 1 := rfl
      exact ⟨(4 - (1 : Int32).toInt).toNat + 1, l_X6_leastEffortUp_L26 w_I v0 v1 kv0 p0   hQ   _ (1048576 : Int32) (1 : Int32)   (by omega)  (by omega)⟩
    · skip
      first | (have t49 : ¬ ((I b42 v1.toNatClampNeg).toInt = (0)) := (not_congr (i_eq rfl (show (0 : Int32).toInt = 0 from rfl))).mp c45) | (have t49 : ¬ ((I b42 v1.toNatClampNeg).toInt = (0 : Int32).toInt) := (not_congr (i_eq rfl rfl)).mp c45) | skip
      unfold f_X6_leastEffortUp_b23
      have t50 : (0 : Int32).toInt = 0 := rfl
      have t51 : (1 : Int32).toInt = 1 := rfl
      exact ⟨(4 - (1 : Int32).toInt).toNat + 1, l_X6_leastEffortUp_L26 w_I v0 v1 kv0 p0   hQ   _ (0 : Int32) (1 : Int32)   (by omega)  (by omega)⟩
def Ws_X6_lay : List (Nat × Nat) := [(3, 2), (6, 4), (6, 5), (6, 6), (6, 7), (6, 14), (6, 15), (8, 8)]
set_option maxHeartbeats 4000000 in
set_option maxRecDepth 100000 in
theorem l_X6_lay_L104 {Z : jZ} {I0 : jI} {Q : jI → jL → Prop} (w0 : WD Z I0) (v0 : Nat) (v1 : Int32) (v2 : Int32) (v3 : Int32) (kv0 : jk Z v0 6) (hQ : ∀  (I' : jI) (L' : jL), WD Z I' → FR Ws_X6_lay Z I0 Z I' → Q I' L') : ∀ (n : Nat) (v4 : Int32) (I : jI) (L : jL), WD Z I → FR Ws_X6_lay Z I0 Z I →   (-1 ≤ v4.toInt ∧ v4.toInt ≤ 24) → v4.toInt + 1 < (n : Int) → f_X6_lay_L104  Z Q n v0 v4 I L := by
  intro n
  induction n with
  | zero =>
    intro v4 I L w_I q_I   li  me
    exfalso
    omega
  | succ n ih =>
    intro v4 I L w_I q_I   li  me
    unfold f_X6_lay_L104
    have rv4 := i_rng v4
    have rv1 := i_rng v1
    have rv2 := i_rng v2
    have rv3 := i_rng v3
    refine ⟨fun c1 => ?_, fun c1 => ?_⟩
    · skip
      first | (have t2 : v4.toInt < (0) := (i_lt rfl (show (0 : Int32).toInt = 0 from rfl)).mp c1) | (have t2 : v4.toInt < (0 : Int32).toInt := (i_lt rfl rfl).mp c1) | skip
      exact hQ  I L w_I q_I 
    · skip
      first | (have t3 : ¬ (v4.toInt < (0)) := (not_congr (i_lt rfl (show (0 : Int32).toInt = 0 from rfl))).mp c1) | (have t3 : ¬ (v4.toInt < (0 : Int32).toInt) := (not_congr (i_lt rfl rfl)).mp c1) | skip
      intro b4 eb4
      obtain ⟨x5, ex5, kb4, lb4⟩ := sh_f w_I.1 kv0 (j := 7) (k := 14) (m := 25) rfl
      cases eb4.symm.trans ex5
      refine s_X6_leastEffortUp w_I v0 v4 kv0  (by omega) (fun r6  => ?_)
      have rr6 := i_rng r6
      have o7 : vp_in v4 25 := vi_of rfl (by omega) (by omega)
      refine ⟨o7, ?_⟩
      intro I8 eI8
      have w_I8 : WD Z I8 := by rw [eI8]; exact WD_putA w_I 6 7 kv0 eb4 kb4 rfl rfl (by decide) trivial
      have f_I8 : FR [(6, 7)] Z I Z I8 := by rw [eI8]; exact FR_upA w_I.2.1 kv0 eb4 kb4 rfl rfl List.mem_cons_self
      have q_I8 : FR Ws_X6_lay Z I0 Z I8 := q_I.trans w0.1 w0.2.1 (f_I8.mono (by decide))
      intro x9 ex9
      have rx9 := i_rng x9
      first | (have tx9 : x9.toInt = v4.toInt + (-1) := by (rw [ex9]; exact (i_add rfl (show (-1 : Int32).toInt = -1 from rfl) (by omega) (by omega)))) | skip
      exact ih x9 I8 L w_I8 q_I8   (by omega)  (by omega)
set_option maxHeartbeats 4000000 in
set_option maxRecDepth 100000 in
theorem l_X6_lay_L31 {Z : jZ} {I0 : jI} {Q : jI → jL → Prop} (w0 : WD Z I0) (v0 : Nat) (v1 : Int32) (v2 : Int32) (v3 : Int32) (kv0 : jk Z v0 6) (hQ : ∀  (I' : jI) (L' : jL), WD Z I' → FR Ws_X6_lay Z I0 Z I' → Q I' L') : ∀ (n : Nat) (v4 : Int32) (I : jI) (L : jL), WD Z I → FR Ws_X6_lay Z I0 Z I →   (1 ≤ v4.toInt ∧ v4.toInt ≤ 25) → 25 - v4.toInt < (n : Int) → f_X6_lay_L31  Z Q n v0 v2 v3 v4 I L := by
  intro n
  induction n with
  | zero =>
    intro v4 I L w_I q_I   li  me
    exfalso
    omega
  | succ n ih =>
    intro v4 I L w_I q_I   li  me
    unfold f_X6_lay_L31
    have rv4 := i_rng v4
    have rv1 := i_rng v1
    have rv2 := i_rng v2
    have rv3 := i_rng v3
    have t11 : 0 ≤ (I v0 15).toInt ∧ (I v0 15).toInt ≤ 24 := w_I.fld 6 15 kv0 (by decide)
    refine ⟨fun c12 => ?_, fun c12 => ?_⟩
    · skip
      first | (have t13 : (I v0 15).toInt < v4.toInt := (i_lt rfl rfl).mp c12) | (have t13 : (I v0 15).toInt < v4.toInt := (i_lt rfl rfl).mp c12) | skip
      have t15 : 0 ≤ (I v0 15).toInt ∧ (I v0 15).toInt ≤ 24 := w_I.fld 6 15 kv0 (by decide)
      have t16 : (1 : Int32).toInt = 1 := rfl
      refine s_X6_measure w_I v0 (1 : Int32) (I v0 15) kv0   (fun  I17 L18 w_I17 f_I17  => ?_)
      have q_I17 : FR Ws_X6_lay Z I0 Z I17 := q_I.trans w0.1 w0.2.1 (f_I17.mono (by decide))
      have u19 : (I17 v0 15).toInt = (I v0 15).toInt := by rw [f_I17.2.2.1 v0 6 15 kv0 (by decide) (by decide)]
      have t21 : 0 ≤ (I17 v0 15).toInt ∧ (I17 v0 15).toInt ≤ 24 := w_I17.fld 6 15 kv0 (by decide)
      intro x22 ex22
      have rx22 := i_rng x22
      first | (have tx22 : x22.toInt = (I17 v0 15).toInt := by (rw [ex22]; exact rfl)) | (have tx22 : x22.toInt = (I17 v0 15).toInt := by rw [ex22])
      exact ⟨(x22.toInt + 1).toNat + 1, l_X6_lay_L104 w0 v0 v1 v2 v3 kv0   hQ   _ x22 I17 L18 w_I17 q_I17   (by omega)  (by omega)⟩
    · skip
      first | (have t23 : ¬ ((I v0 15).toInt < v4.toInt) := (not_congr (i_lt rfl rfl)).mp c12) | (have t23 : ¬ ((I v0 15).toInt < v4.toInt) := (not_congr (i_lt rfl rfl)).mp c12) | skip
      intro x24 ex24
      have rx24 := i_rng x24
      first | (have tx24 : x24.toInt = (v4.toInt - (1)) := by (rw [ex24]; exact (i_sub rfl (show (1 : Int32).toInt = 1 from rfl) (by omega) (by omega)))) | (have tx24 : x24.toInt = (v4 - (1 : Int32)).toInt := by rw [ex24])
      intro b25 eb25
      obtain ⟨x26, ex26, kb25, lb25⟩ := sh_f w_I.1 kv0 (j := 6) (k := 16) (m := 25) rfl
      cases eb25.symm.trans ex26
      refine ⟨fun c27 => ?_, fun c27 => ?_⟩
      · skip
        first | (have t28 : x24.toInt = v3.toInt := (i_eq rfl rfl).mp c27) | (have t28 : x24.toInt = v3.toInt := (i_eq rfl rfl).mp c27) | skip
        unfold f_X6_lay_b81
        unfold f_X6_lay_b82
        have o29 : vp_in v4 (jlen Z b25) := vi_of rfl (by omega) (by omega)
        refine ⟨o29, ?_⟩
        intro I30 eI30
        have t31 : (0 : Int32).toInt = 0 := rfl
        have w_I30 : WD Z I30 := by rw [eI30]; exact WD_putA w_I 6 6 kv0 eb25 kb25 rfl rfl (by decide) trivial
        have f_I30 : FR [(6, 6)] Z I Z I30 := by rw [eI30]; exact FR_upA w_I.2.1 kv0 eb25 kb25 rfl rfl List.mem_cons_self
        have q_I30 : FR Ws_X6_lay Z I0 Z I30 := q_I.trans w0.1 w0.2.1 (f_I30.mono (by decide))
        have u32 : (I30 v0 15).toInt = (I v0 15).toInt := by rw [f_I30.2.2.1 v0 6 15 kv0 (by decide) (by decide)]
        intro x33 ex33
        have rx33 := i_rng x33
        first | (have tx33 : x33.toInt = v4.toInt + (1) := by (rw [ex33]; exact (i_add rfl (show (1 : Int32).toInt = 1 from rfl) (by omega) (by omega)))) | skip
        exact ih x33 I30 L w_I30 q_I30   (by omega)  (by omega)
      · skip
        first | (have t34 : ¬ (x24.toInt = v3.toInt) := (not_congr (i_eq rfl rfl)).mp c27) | (have t34 : ¬ (x24.toInt = v3.toInt) := (not_congr (i_eq rfl rfl)).mp c27) | skip
        intro b35 eb35
        obtain ⟨x36, ex36, kb35⟩ := sh_o w_I.1 kv0 (j := 0) (k := 8) rfl
        cases eb35.symm.trans ex36
        intro b37 eb37
        obtain ⟨x38, ex38, kb37⟩ := sh_o w_I.1 kb35 (j := 4) (k := 4) rfl
        cases eb37.symm.trans ex38
        refine s_X4_mainOf w_I b37 x24 kb37   (fun r39 p40 => ?_)
        have rr39 := i_rng r39
        have t41 : 0 ≤ ((v2 >>> (r39 &&& 31)) &&& (1 : Int32)).toInt ∧ ((v2 >>> (r39 &&& 31)) &&& (1 : Int32)).toInt < 2 ^ 1 := i_and (n := 1) (by decide)
        refine ⟨fun c42 => ?_, fun c42 => ?_⟩
        · skip
          first | (have t43 : ¬ (((v2 >>> (r39 &&& 31)) &&& (1 : Int32)).toInt = (0)) := (not_congr (i_eq rfl (show (0 : Int32).toInt = 0 from rfl))).mp c42) | (have t43 : ¬ (((v2 >>> (r39 &&& 31)) &&& (1 : Int32)).toInt = (0 : Int32).toInt) := (not_congr (i_eq rfl rfl)).mp c42) | skip
          unfold f_X6_lay_b81
          unfold f_X6_lay_b82
          have o44 : vp_in v4 (jlen Z b25) := vi_of rfl (by omega) (by omega)
          refine ⟨o44, ?_⟩
          intro I45 eI45
          have t46 : (0 : Int32).toInt = 0 := rfl
          have w_I45 : WD Z I45 := by rw [eI45]; exact WD_putA w_I 6 6 kv0 eb25 kb25 rfl rfl (by decide) trivial
          have f_I45 : FR [(6, 6)] Z I Z I45 := by rw [eI45]; exact FR_upA w_I.2.1 kv0 eb25 kb25 rfl rfl List.mem_cons_self
          have q_I45 : FR Ws_X6_lay Z I0 Z I45 := q_I.trans w0.1 w0.2.1 (f_I45.mono (by decide))
          have u47 : (I45 v0 15).toInt = (I v0 15).toInt := by rw [f_I45.2.2.1 v0 6 15 kv0 (by decide) (by decide)]
          intro x48 ex48
          have rx48 := i_rng x48
          first | (have tx48 : x48.toInt = v4.toInt + (1) := by (rw [ex48]; exact (i_add rfl (show (1 : Int32).toInt = 1 from rfl) (by omega) (by omega)))) | skip
          exact ih x48 I45 L w_I45 q_I45   (by omega)  (by omega)
        · skip
          first | (have t49 : ((v2 >>> (r39 &&& 31)) &&& (1 : Int32)).toInt = (0) := (i_eq rfl (show (0 : Int32).toInt = 0 from rfl)).mp c42) | (have t49 : ((v2 >>> (r39 &&& 31)) &&& (1 : Int32)).toInt = (0 : Int32).toInt := (i_eq rfl rfl).mp c42) | skip
          unfold f_X6_lay_b82
          have o50 : vp_in v4 (jlen Z b25) := vi_of rfl (by omega) (by omega)
          refine ⟨o50, ?_⟩
          intro I51 eI51
          have t52 : (1 : Int32).toInt = 1 := rfl
          have w_I51 : WD Z I51 := by rw [eI51]; exact WD_putA w_I 6 6 kv0 eb25 kb25 rfl rfl (by decide) trivial
          have f_I51 : FR [(6, 6)] Z I Z I51 := by rw [eI51]; exact FR_upA w_I.2.1 kv0 eb25 kb25 rfl rfl List.mem_cons_self
          have q_I51 : FR Ws_X6_lay Z I0 Z I51 := q_I.trans w0.1 w0.2.1 (f_I51.mono (by decide))
          have u53 : (I51 v0 15).toInt = (I v0 15).toInt := by rw [f_I51.2.2.1 v0 6 15 kv0 (by decide) (by decide)]
          intro x54 ex54
          have rx54 := i_rng x54
          first | (have tx54 : x54.toInt = v4.toInt + (1) := by (rw [ex54]; exact (i_add rfl (show (1 : Int32).toInt = 1 from rfl) (by omega) (by omega)))) | skip
          exact ih x54 I51 L w_I51 q_I51   (by omega)  (by omega)
set_option maxHeartbeats 4000000 in
set_option maxRecDepth 100000 in
theorem s_X6_lay {Z : jZ} {I : jI} {L : jL} (w_I : WD Z I) (v0 : Nat) (v1 : Int32) (v2 : Int32) (v3 : Int32) (kv0 : jk Z v0 6) {Q : jI → jL → Prop} (hQ : ∀  (I' : jI) (L' : jL), WD Z I' → FR Ws_X6_lay Z I Z I' → Q I' L') : f_X6_lay v0 v1 v2 v3 Z I L Q := by
  unfold f_X6_lay
  have q_I : FR Ws_X6_lay Z I Z I := FR.rf
  have rv1 := i_rng v1
  have rv2 := i_rng v2
  have rv3 := i_rng v3
  intro I55 eI55
  have w_I55 : WD Z I55 := by rw [eI55]; exact WD_putF w_I 6 14 kv0 (by decide) (by decide) trivial
  have f_I55 : FR [(6, 14)] Z I Z I55 := by rw [eI55]; exact FR_putF kv0 (by decide) List.mem_cons_self
  have q_I55 : FR Ws_X6_lay Z I Z I55 := q_I.trans w_I.1 w_I.2.1 (f_I55.mono (by decide))
  first | (have u56 : (I55 v0 14).toInt = v1.toInt := by (rw [eI55, show jpI I v0 14 v1 v0 14 = v1 from jpI_at] <;> exact rfl)) | skip
  intro b57 eb57
  obtain ⟨x58, ex58, kb57⟩ := sh_o w_I55.1 kv0 (j := 0) (k := 8) rfl
  cases eb57.symm.trans ex58
  have t60 : 0 ≤ (I55 b57 9).toInt ∧ (I55 b57 9).toInt ≤ 24 := w_I55.fld 8 9 kb57 (by decide)
  intro I61 eI61
  try (have t62 : (if (24 : Int32) < (I55 b57 9) then (24 : Int32) else (I55 b57 9)).toInt = (min (I55 b57 9).toInt (24)) := (i_min rfl (show (24 : Int32).toInt = 24 from rfl)))
  have w_I61 : WD Z I61 := by rw [eI61]; exact WD_putF w_I55 6 15 kv0 (by decide) (by decide) (by constructor <;> omega)
  have f_I61 : FR [(6, 15)] Z I55 Z I61 := by rw [eI61]; exact FR_putF kv0 (by decide) List.mem_cons_self
  have q_I61 : FR Ws_X6_lay Z I Z I61 := q_I55.trans w_I.1 w_I.2.1 (f_I61.mono (by decide))
  have u63 : (I61 v0 14).toInt = (I55 v0 14).toInt := by rw [f_I61.2.2.1 v0 6 14 kv0 (by decide) (by decide)]
  have u64 : (I61 b57 9).toInt = (I55 b57 9).toInt := by rw [f_I61.2.2.1 b57 8 9 kb57 (by decide) (by decide)]
  first | (have u65 : (I61 v0 15).toInt = (min (I55 b57 9).toInt (24)) := by (rw [eI61, show jpI I55 v0 15 (if (24 : Int32) < (I55 b57 9) then (24 : Int32) else (I55 b57 9)) v0 15 = (if (24 : Int32) < (I55 b57 9) then (24 : Int32) else (I55 b57 9)) from jpI_at] <;> exact (i_min rfl (show (24 : Int32).toInt = 24 from rfl)))) | skip
  intro b66 eb66
  obtain ⟨x67, ex67, kb66, lb66⟩ := sh_f w_I61.1 kv0 (j := 6) (k := 16) (m := 25) rfl
  cases eb66.symm.trans ex67
  intro I68 eI68
  have t69 : (1 : Int32).toInt = 1 := rfl
  have w_I68 : WD Z I68 := by rw [eI68]; exact WD_putA w_I61 6 6 kv0 eb66 kb66 rfl rfl (by decide) trivial
  have f_I68 : FR [(6, 6)] Z I61 Z I68 := by rw [eI68]; exact FR_upA w_I61.2.1 kv0 eb66 kb66 rfl rfl List.mem_cons_self
  have q_I68 : FR Ws_X6_lay Z I Z I68 := q_I61.trans w_I.1 w_I.2.1 (f_I68.mono (by decide))
  have u70 : (I68 v0 14).toInt = (I61 v0 14).toInt := by rw [f_I68.2.2.1 v0 6 14 kv0 (by decide) (by decide)]
  have u71 : (I68 b57 9).toInt = (I61 b57 9).toInt := by rw [f_I68.2.2.1 b57 8 9 kb57 (by decide) (by decide)]
  have u72 : (I68 v0 15).toInt = (I61 v0 15).toInt := by rw [f_I68.2.2.1 v0 6 15 kv0 (by decide) (by decide)]
  have t73 : (1 : Int32).toInt = 1 := rfl
  exact ⟨(25 - (1 : Int32).toInt).toNat + 1, l_X6_lay_L31 w_I v0 v1 v2 v3 kv0   hQ   _ (1 : Int32) I68 L w_I68 q_I68   (by omega)  (by omega)⟩
set_option maxHeartbeats 4000000 in
set_option maxRecDepth 100000 in
theorem l_X6_leastEffortFrom_L13 {Z : jZ} {I : jI} {L : jL} {Q : Int32 → jI → jL → Prop} (w_I : WD Z I) (v0 : Nat) (v1 : Int32) (kv0 : jk Z v0 6) (p0 : 0 ≤ v1.toInt ∧ v1.toInt ≤ 24) (hQ : ∀ (r : Int32), Q r I L) : ∀ (n : Nat) (v2 : Int32) (v3 : Int32) ,   (1 ≤ v3.toInt ∧ v3.toInt ≤ 4) → 4 - v3.toInt < (n : Int) → f_X6_leastEffortFrom_L13  Z Q n v0 v1 v2 v3 I L := by
  intro n
  induction n with
  | zero =>
    intro v2 v3   li  me
    exfalso
    omega
  | succ n ih =>
    intro v2 v3   li  me
    unfold f_X6_leastEffortFrom_L13
    have rv2 := i_rng v2
    have rv3 := i_rng v3
    have rv1 := i_rng v1
    have t2 : 0 ≤ (I v0 3).toInt ∧ (I v0 3).toInt ≤ 3 := w_I.fld 6 3 kv0 (by decide)
    refine ⟨fun c3 => ?_, fun c3 => ?_⟩
    · skip
      first | (have t4 : (I v0 3).toInt < v3.toInt := (i_lt rfl rfl).mp c3) | (have t4 : (I v0 3).toInt < v3.toInt := (i_lt rfl rfl).mp c3) | skip
      exact hQ v2 
    · skip
      first | (have t5 : ¬ ((I v0 3).toInt < v3.toInt) := (not_congr (i_lt rfl rfl)).mp c3) | (have t5 : ¬ ((I v0 3).toInt < v3.toInt) := (not_congr (i_lt rfl rfl)).mp c3) | skip
      refine ⟨fun c6 => ?_, fun c6 => ?_⟩
      · skip
        first | (have t7 : v1.toInt < v3.toInt := (i_lt rfl rfl).mp c6) | (have t7 : v1.toInt < v3.toInt := (i_lt rfl rfl).mp c6) | skip
        exact hQ v2 
      · skip
        first | (have t8 : ¬ (v1.toInt < v3.toInt) := (not_congr (i_lt rfl rfl)).mp c6) | (have t8 : ¬ (v1.toInt < v3.toInt) := (not_congr (i_lt rfl rfl)).mp c6) | skip
        intro b9 eb9
        obtain ⟨x10, ex10, kb9, lb9⟩ := sh_f w_I.1 kv0 (j := 6) (k := 16) (m := 25) rfl
        cases eb9.symm.trans ex10
        have o11 : vp_in v1 25 := vi_of rfl (by omega) (by omega)
        refine ⟨o11, ?_⟩
        refine ⟨fun c12 => ?_, fun c12 => ?_⟩
        · skip
          first | (have t13 : (I b9 v1.toNatClampNeg).toInt = (0) := (i_eq rfl (show (0 : Int32).toInt = 0 from rfl)).mp c12) | (have t13 : (I b9 v1.toNatClampNeg).toInt = (0 : Int32).toInt := (i_eq rfl rfl).mp c12) | skip
          exact hQ v2 
        · skip
          first | (have t14 : ¬ ((I b9 v1.toNatClampNeg).toInt = (0)) := (not_congr (i_eq rfl (show (0 : Int32).toInt = 0 from rfl))).mp c12) | (have t14 : ¬ ((I b9 v1.toNatClampNeg).toInt = (0 : Int32).toInt) := (not_congr (i_eq rfl rfl)).mp c12) | skip
          intro b15 eb15
          obtain ⟨x16, ex16, kb15, lb15⟩ := sh_f w_I.1 kv0 (j := 5) (k := 14) (m := 75) rfl
          cases eb15.symm.trans ex16
          refine s_X6_moveTo w_I v1 v3   (by omega) (fun r17 p18 => ?_)
          have rr17 := i_rng r17
          have o19 : vp_in r17 75 := vi_of rfl (by omega) (by omega)
          refine ⟨o19, ?_⟩
          intro b20 eb20
          obtain ⟨x21, ex21, kb20, lb20⟩ := sh_f w_I.1 kv0 (j := 8) (k := 14) (m := 25) rfl
          cases eb20.symm.trans ex21
          have o22 : vp_in (v1 - v3) 25 := vi_of (i_sub rfl rfl (by omega) (by omega)) (by omega) (by omega)
          refine ⟨o22, ?_⟩
          intro x23 ex23
          have rx23 := i_rng x23
          first | (have tx23 : x23.toInt = (min v2.toInt ((I b15 r17.toNatClampNeg).toInt + (I b20 (v1 - v3).toNatClampNeg).toInt)) := by (rw [ex23]; exact (i_min rfl (i_add rfl rfl (by omega) (by omega))))) | (have tx23 : x23.toInt = (if ((I b15 r17.toNatClampNeg) + (I b20 (v1 - v3).toNatClampNeg)) < v2 then ((I b15 r17.toNatClampNeg) + (I b20 (v1 - v3).toNatClampNeg)) else v2).toInt := by rw [ex23])
          intro x24 ex24
          have rx24 := i_rng x24
          first | (have tx24 : x24.toInt = v3.toInt + (1) := by (rw [ex24]; exact (i_add rfl (show (1 : Int32).toInt = 1 from rfl) (by omega) (by omega)))) | skip
          exact ih x23 x24   (by omega)  (by omega)
set_option maxHeartbeats 4000000 in
set_option maxRecDepth 100000 in
theorem s_X6_leastEffortFrom {Z : jZ} {I : jI} {L : jL} (w_I : WD Z I) (v0 : Nat) (v1 : Int32) (kv0 : jk Z v0 6) (p0 : 0 ≤ v1.toInt ∧ v1.toInt ≤ 24) {Q : Int32 → jI → jL → Prop} (hQ : ∀ (r : Int32), Q r I L) : f_X6_leastEffortFrom v0 v1 Z I L Q := by
  unfold f_X6_leastEffortFrom
  have rv1 := i_rng v1
  refine ⟨fun c25 => ?_, fun c25 => ?_⟩
  · skip
    first | (have t26 : ¬ (v1.toInt = (0)) := (not_congr (i_eq rfl (show (0 : Int32).toInt = 0 from rfl))).mp c25) | (have t26 : ¬ (v1.toInt = (0 : Int32).toInt) := (not_congr (i_eq rfl rfl)).mp c25) | skip
    unfold f_X6_leastEffortFrom_b10
    have t27 : (1048576 : Int32).toInt = 1048576 := rfl
    have t28 : (1 : Int32).toInt = 1 := rfl
    exact ⟨(4 - (1 : Int32).toInt).toNat + 1, l_X6_leastEffortFrom_L13 w_I v0 v1 kv0 p0   hQ   _ (1048576 : Int32) (1 : Int32)   (by omega)  (by omega)⟩
  · skip
    first | (have t29 : v1.toInt = (0) := (i_eq rfl (show (0 : Int32).toInt = 0 from rfl)).mp c25) | (have t29 : v1.toInt = (0 : Int32).toInt := (i_eq rfl rfl).mp c25) | skip
    unfold f_X6_leastEffortFrom_b10
    have t30 : (0 : Int32).toInt = 0 := rfl
    have t31 : (1 : Int32).toInt = 1 := rfl
    exact ⟨(4 - (1 : Int32).toInt).toNat + 1, l_X6_leastEffortFrom_L13 w_I v0 v1 kv0 p0   hQ   _ (0 : Int32) (1 : Int32)   (by omega)  (by omega)⟩
set_option maxHeartbeats 4000000 in
set_option maxRecDepth 100000 in
theorem l_X7_leastJoined_L86 {Z : jZ} {I : jI} {L : jL} {Q : Int64 → jI → jL → Prop} (w_I : WD Z I) (v0 : Nat) (v1 : Int32) (v2 : Nat) (v3 : Int32) (v4 : Int32) (kv0 : jk Z v0 7) (kv2 : jk Z v2 7) (v5 : Int32) (v7 : Int64) (v9 : Int64) (v11 : Int32) (v12 : Int64) (v14 : Int32) (hQ : ∀ (r : Int64), Q r I L) {K31 : Nat → Int32 → Nat → Int32 → Int32 → Int32 → Int32 → Int64 → Int64 → Int32 → jI → jL → Prop} {N31 : Int} (hK31 : ∀ (v6 : Int32) (v7 : Int64) (v11 : Int32),   (0 ≤ v11.toInt ∧ v11.toInt ≤ 1048576 ∧ 0 ≤ v6.toInt ∧ v6.toInt ≤ 1048576) → 1048576 - v11.toInt < N31 → K31 v0 v1 v2 v3 v4 v5 v6 v7 v9 v11 I L) : ∀ (n : Nat) (v6 : Int32) ,   (0 ≤ v11.toInt ∧ v11.toInt < 1048576 ∧ 0 ≤ v6.toInt ∧ v6.toInt ≤ 1048576) → 1048576 - v11.toInt ≤ N31 → v6.toInt < (n : Int) → f_X7_leastJoined_L86 K31 Z Q n v0 v1 v2 v3 v4 v5 v6 v7 v9 v11 v12 v14 I L := by
  intro n
  induction n with
  | zero =>
    intro v6   li hm31 me
    exfalso
    omega
  | succ n ih =>
    intro v6   li hm31 me
    unfold f_X7_leastJoined_L86
    have rv6 := i_rng v6
    have rv5 := i_rng v5
    have rv11 := i_rng v11
    have rv14 := i_rng v14
    have rv1 := i_rng v1
    have rv3 := i_rng v3
    have rv4 := i_rng v4
    refine ⟨fun c1 => ?_, fun c1 => ?_⟩
    · skip
      first | (have t2 : v6.toInt ≤ (0) := (i_le rfl (show (0 : Int32).toInt = 0 from rfl)).mp c1) | (have t2 : v6.toInt ≤ (0 : Int32).toInt := (i_le rfl rfl).mp c1) | skip
      unfold f_X7_leastJoined_b114
      refine ⟨fun c3 => ?_, fun c3 => ?_⟩
      · skip
        first | (have t4 : v5.toInt ≤ v6.toInt := (i_le rfl rfl).mp c3) | (have t4 : v5.toInt ≤ v6.toInt := (i_le rfl rfl).mp c3) | skip
        unfold f_X7_leastJoined_b142
        intro x5 ex5
        have rx5 := i_rng x5
        first | (have tx5 : x5.toInt = v11.toInt + (1) := by (rw [ex5]; exact (i_add rfl (show (1 : Int32).toInt = 1 from rfl) (by omega) (by omega)))) | skip
        exact hK31 v6 v7 x5   (by omega)  (by omega)
      · skip
        first | (have t6 : ¬ (v5.toInt ≤ v6.toInt) := (not_congr (i_le rfl rfl)).mp c3) | (have t6 : ¬ (v5.toInt ≤ v6.toInt) := (not_congr (i_le rfl rfl)).mp c3) | skip
        refine s_X7_keyAt w_I v2 v3 v6 kv2   (fun r7  => ?_)
        intro x8 ex8
        unfold f_X7_leastJoined_b142
        intro x9 ex9
        have rx9 := i_rng x9
        first | (have tx9 : x9.toInt = v11.toInt + (1) := by (rw [ex9]; exact (i_add rfl (show (1 : Int32).toInt = 1 from rfl) (by omega) (by omega)))) | skip
        exact hK31 v6 x8 x9   (by omega)  (by omega)
    · skip
      first | (have t10 : ¬ (v6.toInt ≤ (0)) := (not_congr (i_le rfl (show (0 : Int32).toInt = 0 from rfl))).mp c1) | (have t10 : ¬ (v6.toInt ≤ (0 : Int32).toInt) := (not_congr (i_le rfl rfl)).mp c1) | skip
      try (have t11 : (v6 - (1 : Int32)).toInt = (v6.toInt - (1)) := (i_sub rfl (show (1 : Int32).toInt = 1 from rfl) (by omega) (by omega)))
      refine s_X7_keyAt w_I v2 v3 (v6 - (1 : Int32)) kv2   (fun r12  => ?_)
      refine s_X11_effortIn w_I r12    (fun r13 p14 => ?_)
      have rr13 := i_rng r13
      refine ⟨fun c15 => ?_, fun c15 => ?_⟩
      · skip
        first | (have t16 : v14.toInt < r13.toInt := (i_lt rfl rfl).mp c15) | (have t16 : v14.toInt < r13.toInt := (i_lt rfl rfl).mp c15) | skip
        unfold f_X7_leastJoined_b114
        refine ⟨fun c17 => ?_, fun c17 => ?_⟩
        · skip
          first | (have t18 : v5.toInt ≤ v6.toInt := (i_le rfl rfl).mp c17) | (have t18 : v5.toInt ≤ v6.toInt := (i_le rfl rfl).mp c17) | skip
          unfold f_X7_leastJoined_b142
          intro x19 ex19
          have rx19 := i_rng x19
          first | (have tx19 : x19.toInt = v11.toInt + (1) := by (rw [ex19]; exact (i_add rfl (show (1 : Int32).toInt = 1 from rfl) (by omega) (by omega)))) | skip
          exact hK31 v6 v7 x19   (by omega)  (by omega)
        · skip
          first | (have t20 : ¬ (v5.toInt ≤ v6.toInt) := (not_congr (i_le rfl rfl)).mp c17) | (have t20 : ¬ (v5.toInt ≤ v6.toInt) := (not_congr (i_le rfl rfl)).mp c17) | skip
          refine s_X7_keyAt w_I v2 v3 v6 kv2   (fun r21  => ?_)
          intro x22 ex22
          unfold f_X7_leastJoined_b142
          intro x23 ex23
          have rx23 := i_rng x23
          first | (have tx23 : x23.toInt = v11.toInt + (1) := by (rw [ex23]; exact (i_add rfl (show (1 : Int32).toInt = 1 from rfl) (by omega) (by omega)))) | skip
          exact hK31 v6 x22 x23   (by omega)  (by omega)
      · skip
        first | (have t24 : ¬ (v14.toInt < r13.toInt) := (not_congr (i_lt rfl rfl)).mp c15) | (have t24 : ¬ (v14.toInt < r13.toInt) := (not_congr (i_lt rfl rfl)).mp c15) | skip
        intro x25 ex25
        have rx25 := i_rng x25
        first | (have tx25 : x25.toInt = v6.toInt + (-1) := by (rw [ex25]; exact (i_add rfl (show (-1 : Int32).toInt = -1 from rfl) (by omega) (by omega)))) | skip
        exact ih x25   (by omega) (by omega) (by omega)
set_option maxHeartbeats 4000000 in
set_option maxRecDepth 100000 in
theorem l_X7_leastJoined_L31 {Z : jZ} {I : jI} {L : jL} {Q : Int64 → jI → jL → Prop} (w_I : WD Z I) (v0 : Nat) (v1 : Int32) (v2 : Nat) (v3 : Int32) (v4 : Int32) (kv0 : jk Z v0 7) (kv2 : jk Z v2 7) (v5 : Int32) (v9 : Int64) (hQ : ∀ (r : Int64), Q r I L) : ∀ (n : Nat) (v6 : Int32) (v7 : Int64) (v11 : Int32) ,   (0 ≤ v11.toInt ∧ v11.toInt ≤ 1048576 ∧ 0 ≤ v6.toInt ∧ v6.toInt ≤ 1048576) → 1048576 - v11.toInt < (n : Int) → f_X7_leastJoined_L31  Z Q n v0 v1 v2 v3 v4 v5 v6 v7 v9 v11 I L := by
  intro n
  induction n with
  | zero =>
    intro v6 v7 v11   li  me
    exfalso
    omega
  | succ n ih =>
    intro v6 v7 v11   li  me
    unfold f_X7_leastJoined_L31
    have rv6 := i_rng v6
    have rv11 := i_rng v11
    have rv5 := i_rng v5
    have rv1 := i_rng v1
    have rv3 := i_rng v3
    have rv4 := i_rng v4
    refine s_X7_sizeAt w_I v0 v1 kv0   (fun r26 p27 => ?_)
    obtain ⟨b28, eb28, kb28, lb28⟩ := sh_f w_I.1 kv0 (j := 1) (k := 14) (m := 25) rfl
    have t30 : 0 < r26.toInt → (0 ≤ v1.toInt ∧ v1.toInt ≤ 24 ∧ 0 ≤ (I b28 v1.toNatClampNeg).toInt ∧ (I b28 v1.toNatClampNeg).toInt + r26.toInt ≤ (I v0 3).toInt) := fun h9 => ⟨(p27.2.2 h9).1, (p27.2.2 h9).2.1, (p27.2.2 h9).2.2 _ eb28⟩
    have t31 := rw3 w_I kv0
    obtain ⟨p27_0, p27_1, p27_2⟩ := p27
    have rr26 := i_rng r26
    refine ⟨fun c32 => ?_, fun c32 => ?_⟩
    · skip
      first | (have t33 : r26.toInt ≤ v11.toInt := (i_le rfl rfl).mp c32) | (have t33 : r26.toInt ≤ v11.toInt := (i_le rfl rfl).mp c32) | skip
      unfold f_X7_leastJoined_b148
      exact hQ v7 
    · skip
      first | (have t34 : ¬ (r26.toInt ≤ v11.toInt) := (not_congr (i_le rfl rfl)).mp c32) | (have t34 : ¬ (r26.toInt ≤ v11.toInt) := (not_congr (i_le rfl rfl)).mp c32) | skip
      refine ⟨fun c35 => ?_, fun c35 => ?_⟩
      · skip
        first | (have t36 : v5.toInt ≤ (0) := (i_le rfl (show (0 : Int32).toInt = 0 from rfl)).mp c35) | (have t36 : v5.toInt ≤ (0 : Int32).toInt := (i_le rfl rfl).mp c35) | skip
        unfold f_X7_leastJoined_b148
        exact hQ v7 
      · skip
        first | (have t37 : ¬ (v5.toInt ≤ (0)) := (not_congr (i_le rfl (show (0 : Int32).toInt = 0 from rfl))).mp c35) | (have t37 : ¬ (v5.toInt ≤ (0 : Int32).toInt) := (not_congr (i_le rfl rfl)).mp c35) | skip
        intro b38 eb38
        obtain ⟨x39, ex39, kb38⟩ := sh_o w_I.1 kv0 (j := 0) (k := 15) rfl
        cases eb38.symm.trans ex39
        have t40 := rw0 w_I kv0 eb38
        intro b41 eb41
        obtain rfl : b28 = b41 := Option.some.inj (eb28.symm.trans eb41)
        have o42 : vp_in v1 25 := vi_of rfl (by omega) (by omega)
        refine ⟨o42, ?_⟩
        have o43 : vp_in ((I b28 v1.toNatClampNeg) + v11) (jlen Z b38) := vi_of (i_add rfl rfl (by omega) (by omega)) (by omega) (by omega)
        refine ⟨o43, ?_⟩
        intro x44 ex44
        refine ⟨fun c45 => ?_, fun c45 => ?_⟩
        · skip
          first | (have t46 : (lg_cmp (x44 + v9) v7).toInt < (0) := (i_lt rfl (show (0 : Int32).toInt = 0 from rfl)).mp c45) | (have t46 : (lg_cmp (x44 + v9) v7).toInt < (0 : Int32).toInt := (i_lt rfl rfl).mp c45) | skip
          refine s_X11_effortIn w_I x44    (fun r47 p48 => ?_)
          have rr47 := i_rng r47
          intro x49 ex49
          have rx49 := i_rng x49
          first | (have tx49 : x49.toInt = (v4.toInt - r47.toInt) := by (rw [ex49]; exact (i_sub rfl rfl (by omega) (by omega)))) | (have tx49 : x49.toInt = (v4 - r47).toInt := by rw [ex49])
          exact ⟨(v6.toInt).toNat + 1, l_X7_leastJoined_L86 w_I v0 v1 v2 v3 v4 kv0 kv2 v5 v7 v9 v11 x44 x49  hQ ih  _ v6   (by omega) (by omega) (by omega)⟩
        · skip
          first | (have t50 : ¬ ((lg_cmp (x44 + v9) v7).toInt < (0)) := (not_congr (i_lt rfl (show (0 : Int32).toInt = 0 from rfl))).mp c45) | (have t50 : ¬ ((lg_cmp (x44 + v9) v7).toInt < (0 : Int32).toInt) := (not_congr (i_lt rfl rfl)).mp c45) | skip
          exact hQ v7 
set_option maxHeartbeats 4000000 in
set_option maxRecDepth 100000 in
theorem s_X7_leastJoined {Z : jZ} {I : jI} {L : jL} (w_I : WD Z I) (v0 : Nat) (v1 : Int32) (v2 : Nat) (v3 : Int32) (v4 : Int32) (kv0 : jk Z v0 7) (kv2 : jk Z v2 7) {Q : Int64 → jI → jL → Prop} (hQ : ∀ (r : Int64), Q r I L) : f_X7_leastJoined v0 v1 v2 v3 v4 Z I L Q := by
  unfold f_X7_leastJoined
  have rv1 := i_rng v1
  have rv3 := i_rng v3
  have rv4 := i_rng v4
  refine s_X7_sizeAt w_I v2 v3 kv2   (fun r51 p52 => ?_)
  obtain ⟨b53, eb53, kb53, lb53⟩ := sh_f w_I.1 kv2 (j := 1) (k := 14) (m := 25) rfl
  have t55 : 0 < r51.toInt → (0 ≤ v3.toInt ∧ v3.toInt ≤ 24 ∧ 0 ≤ (I b53 v3.toNatClampNeg).toInt ∧ (I b53 v3.toNatClampNeg).toInt + r51.toInt ≤ (I v2 3).toInt) := fun h9 => ⟨(p52.2.2 h9).1, (p52.2.2 h9).2.1, (p52.2.2 h9).2.2 _ eb53⟩
  have t56 := rw3 w_I kv2
  obtain ⟨p52_0, p52_1, p52_2⟩ := p52
  have rr51 := i_rng r51
  have t57 : (0 : Int32).toInt = 0 := rfl
  refine s_X7_keyAt w_I v2 v3 (0 : Int32) kv2   (fun r58  => ?_)
  intro x59 ex59
  have t60 : (0 : Int32).toInt = 0 := rfl
  exact ⟨(1048576 - (0 : Int32).toInt).toNat + 1, l_X7_leastJoined_L31 w_I v0 v1 v2 v3 v4 kv0 kv2 r51 x59  hQ   _ r51 (9223372036854775807 : Int64) (0 : Int32)   (by omega)  (by omega)⟩
def Ws_X6_offerBy : List (Nat × Nat) := [(3, 2), (6, 12), (6, 13), (8, 8)]
set_option maxHeartbeats 4000000 in
set_option maxRecDepth 100000 in
theorem l_X6_offerBy_L150 {Z : jZ} {I0 : jI} {Q : jI → jL → Prop} (w0 : WD Z I0) (v0 : Nat) (v1 : Int32) (v2 : Int32) (v3 : Int32) (kv0 : jk Z v0 6) (p0 : 0 ≤ v2.toInt ∧ v2.toInt < v3.toInt ∧ v3.toInt ≤ 24 ∧ v3.toInt - v2.toInt ≤ 3) (v10 : Int64) (hQ : ∀  (I' : jI) (L' : jL), WD Z I' → FR Ws_X6_offerBy Z I0 Z I' → Q I' L') : ∀ (n : Nat) (v12 : Int32) (I : jI) (L : jL), WD Z I → FR Ws_X6_offerBy Z I0 Z I →   (0 ≤ v12.toInt ∧ v12.toInt ≤ 21) → 21 - v12.toInt < (n : Int) → f_X6_offerBy_L150  Z Q n v0 v10 v12 I L := by
  intro n
  induction n with
  | zero =>
    intro v12 I L w_I q_I   li  me
    exfalso
    omega
  | succ n ih =>
    intro v12 I L w_I q_I   li  me
    unfold f_X6_offerBy_L150
    have rv12 := i_rng v12
    have rv1 := i_rng v1
    have rv2 := i_rng v2
    have rv3 := i_rng v3
    refine ⟨fun c1 => ?_, fun c1 => ?_⟩
    · skip
      first | (have t2 : (20) < v12.toInt := (i_lt (show (20 : Int32).toInt = 20 from rfl) rfl).mp c1) | (have t2 : (20 : Int32).toInt < v12.toInt := (i_lt rfl rfl).mp c1) | skip
      exact hQ  I L w_I q_I 
    · skip
      first | (have t3 : ¬ ((20) < v12.toInt) := (not_congr (i_lt (show (20 : Int32).toInt = 20 from rfl) rfl)).mp c1) | (have t3 : ¬ ((20 : Int32).toInt < v12.toInt) := (not_congr (i_lt rfl rfl)).mp c1) | skip
      intro b4 eb4
      obtain ⟨x5, ex5, kb4, lb4⟩ := sh_f w_I.1 kv0 (j := 13) (k := 14) (m := 21) rfl
      cases eb4.symm.trans ex5
      have o6 : vp_in v12 21 := vi_of rfl (by omega) (by omega)
      refine ⟨o6, ?_⟩
      intro x7 ex7
      intro b8 eb8
      obtain ⟨x9, ex9, kb8, lb8⟩ := sh_f w_I.1 kv0 (j := 11) (k := 15) (m := 21) rfl
      cases eb8.symm.trans ex9
      have o10 : vp_in v12 21 := vi_of rfl (by omega) (by omega)
      refine ⟨o10, ?_⟩
      refine ⟨fun c11 => ?_, fun c11 => ?_⟩
      · skip
        first | (have t12 : (0) ≤ (lg_cmp x7 (L b8 v12.toNatClampNeg)).toInt := (i_le (show (0 : Int32).toInt = 0 from rfl) rfl).mp c11) | (have t12 : (0 : Int32).toInt ≤ (lg_cmp x7 (L b8 v12.toNatClampNeg)).toInt := (i_le rfl rfl).mp c11) | skip
        unfold f_X6_offerBy_b209
        intro x13 ex13
        have rx13 := i_rng x13
        first | (have tx13 : x13.toInt = v12.toInt + (1) := by (rw [ex13]; exact (i_add rfl (show (1 : Int32).toInt = 1 from rfl) (by omega) (by omega)))) | skip
        exact ih x13 I L w_I q_I   (by omega)  (by omega)
      · skip
        first | (have t14 : ¬ ((0) ≤ (lg_cmp x7 (L b8 v12.toNatClampNeg)).toInt) := (not_congr (i_le (show (0 : Int32).toInt = 0 from rfl) rfl)).mp c11) | (have t14 : ¬ ((0 : Int32).toInt ≤ (lg_cmp x7 (L b8 v12.toNatClampNeg)).toInt) := (not_congr (i_le rfl rfl)).mp c11) | skip
        intro b15 eb15
        obtain rfl : b8 = b15 := Option.some.inj (eb8.symm.trans eb15)
        have o16 : vp_in v12 21 := vi_of rfl (by omega) (by omega)
        refine ⟨o16, ?_⟩
        intro L17 eL17
        intro b18 eb18
        obtain ⟨x19, ex19, kb18, lb18⟩ := sh_f w_I.1 kv0 (j := 12) (k := 14) (m := 21) rfl
        cases eb18.symm.trans ex19
        intro b20 eb20
        obtain rfl : b4 = b20 := Option.some.inj (eb4.symm.trans eb20)
        have o21 : vp_in v12 21 := vi_of rfl (by omega) (by omega)
        refine ⟨o21, ?_⟩
        have o22 : vp_in v12 21 := vi_of rfl (by omega) (by omega)
        refine ⟨o22, ?_⟩
        intro I23 eI23
        have w_I23 : WD Z I23 := by rw [eI23]; exact WD_putA w_I 6 12 kv0 eb18 kb18 rfl rfl (by decide) trivial
        have f_I23 : FR [(6, 12)] Z I Z I23 := by rw [eI23]; exact FR_upA w_I.2.1 kv0 eb18 kb18 rfl rfl List.mem_cons_self
        have q_I23 : FR Ws_X6_offerBy Z I0 Z I23 := q_I.trans w0.1 w0.2.1 (f_I23.mono (by decide))
        unfold f_X6_offerBy_b209
        intro x24 ex24
        have rx24 := i_rng x24
        first | (have tx24 : x24.toInt = v12.toInt + (1) := by (rw [ex24]; exact (i_add rfl (show (1 : Int32).toInt = 1 from rfl) (by omega) (by omega)))) | skip
        exact ih x24 I23 L17 w_I23 q_I23   (by omega)  (by omega)
set_option maxHeartbeats 4000000 in
set_option maxRecDepth 100000 in
theorem s_X6_offerBy {Z : jZ} {I : jI} {L : jL} (w_I : WD Z I) (v0 : Nat) (v1 : Int32) (v2 : Int32) (v3 : Int32) (kv0 : jk Z v0 6) (p0 : 0 ≤ v2.toInt ∧ v2.toInt < v3.toInt ∧ v3.toInt ≤ 24 ∧ v3.toInt - v2.toInt ≤ 3) {Q : jI → jL → Prop} (hQ : ∀  (I' : jI) (L' : jL), WD Z I' → FR Ws_X6_offerBy Z I Z I' → Q I' L') : f_X6_offerBy v0 v1 v2 v3 Z I L Q := by
  unfold f_X6_offerBy
  have q_I : FR Ws_X6_offerBy Z I Z I := FR.rf
  have rv1 := i_rng v1
  have rv2 := i_rng v2
  have rv3 := i_rng v3
  intro x25 ex25
  have rx25 := i_rng x25
  first | (have tx25 : x25.toInt = (v3.toInt - v2.toInt) := by (rw [ex25]; exact (i_sub rfl rfl (by omega) (by omega)))) | (have tx25 : x25.toInt = (v3 - v2).toInt := by rw [ex25])
  intro b26 eb26
  obtain ⟨x27, ex27, kb26⟩ := sh_o w_I.1 kv0 (j := 9) (k := 7) rfl
  cases eb26.symm.trans ex27
  intro b28 eb28
  obtain ⟨x29, ex29, kb28⟩ := sh_o w_I.1 kv0 (j := 10) (k := 7) rfl
  cases eb28.symm.trans ex29
  intro b30 eb30
  obtain ⟨x31, ex31, kb30, lb30⟩ := sh_f w_I.1 kv0 (j := 5) (k := 14) (m := 75) rfl
  cases eb30.symm.trans ex31
  refine s_X6_moveTo w_I v3 x25   (by omega) (fun r32 p33 => ?_)
  have rr32 := i_rng r32
  have o34 : vp_in r32 75 := vi_of rfl (by omega) (by omega)
  refine ⟨o34, ?_⟩
  try (have t35 : ((I v0 1) - (I b30 r32.toNatClampNeg)).toInt = ((I v0 1).toInt - (I b30 r32.toNatClampNeg).toInt) := (i_sub rfl rfl (by omega) (by omega)))
  refine s_X7_leastJoined w_I b26 v2 b28 v3 ((I v0 1) - (I b30 r32.toNatClampNeg)) kb26 kb28   (fun r36  => ?_)
  refine ⟨fun c37 => ?_, fun c37 => ?_⟩
  · skip
    first | (have t38 : (lg_cmp r36 (9223372036854775807 : Int64)).toInt = (0) := (i_eq rfl (show (0 : Int32).toInt = 0 from rfl)).mp c37) | (have t38 : (lg_cmp r36 (9223372036854775807 : Int64)).toInt = (0 : Int32).toInt := (i_eq rfl rfl).mp c37) | skip
    exact hQ  I L w_I q_I 
  · skip
    first | (have t39 : ¬ ((lg_cmp r36 (9223372036854775807 : Int64)).toInt = (0)) := (not_congr (i_eq rfl (show (0 : Int32).toInt = 0 from rfl))).mp c37) | (have t39 : ¬ ((lg_cmp r36 (9223372036854775807 : Int64)).toInt = (0 : Int32).toInt) := (not_congr (i_eq rfl rfl)).mp c37) | skip
    intro b40 eb40
    obtain ⟨x41, ex41, kb40⟩ := sh_o w_I.1 kv0 (j := 0) (k := 8) rfl
    cases eb40.symm.trans ex41
    refine s_X8_has w_I b40 v1 kb40   (fun r42 p43 => ?_)
    have rr42 := i_rng r42
    refine ⟨fun c44 => ?_, fun c44 => ?_⟩
    · skip
      first | (have t45 : ¬ (r42.toInt = (0)) := (not_congr (i_eq rfl (show (0 : Int32).toInt = 0 from rfl))).mp c44) | (have t45 : ¬ (r42.toInt = (0 : Int32).toInt) := (not_congr (i_eq rfl rfl)).mp c44) | skip
      refine ⟨fun c46 => ?_, fun c46 => ?_⟩
      · skip
        first | (have t47 : ¬ (v3.toInt = (v1.toInt + (1))) := (not_congr (i_eq rfl (i_add rfl (show (1 : Int32).toInt = 1 from rfl) (by omega) (by omega)))).mp c46) | (have t47 : ¬ (v3.toInt = (v1 + (1 : Int32)).toInt) := (not_congr (i_eq rfl rfl)).mp c46) | skip
        unfold f_X6_offerBy_b69
        intro b48 eb48
        obtain rfl : b40 = b48 := Option.some.inj (eb40.symm.trans eb48)
        intro b49 eb49
        obtain ⟨x50, ex50, kb49, lb49⟩ := sh_f w_I.1 kv0 (j := 13) (k := 14) (m := 21) rfl
        cases eb49.symm.trans ex50
        have t51 : (1 : Int32).toInt = 1 := rfl
        try (have t52 : (v2 - (1 : Int32)).toInt = (v2.toInt - (1)) := (i_sub rfl (show (1 : Int32).toInt = 1 from rfl) (by omega) (by omega)))
        try (have t53 : (x25 - (1 : Int32)).toInt = (x25.toInt - (1)) := (i_sub rfl (show (1 : Int32).toInt = 1 from rfl) (by omega) (by omega)))
        refine s_X8_pricesInto w_I b40 b49 (1 : Int32) v1 (v2 - (1 : Int32)) (x25 - (1 : Int32)) (I v0 14) kb40 kb49 v0 6 13 kv0 eb49 (by decide) rfl (by omega) (by intro i v; first | trivial | exact p1 i v) (fun  I54 L55 w_I54 f_I54  => ?_)
        have q_I54 : FR Ws_X6_offerBy Z I Z I54 := q_I.trans w_I.1 w_I.2.1 (f_I54.mono (by first | decide | (intro p hp; simp at hp ⊢; omega) | simp))
        intro b56 eb56
        obtain rfl : b40 = b56 := Option.some.inj (eb40.symm.trans eb56)
        intro b57 eb57
        obtain ⟨x58, ex58, kb57, lb57⟩ := sh_f w_I54.1 kb40 (j := 2) (k := 14) (m := 24) rfl
        cases eb57.symm.trans ex58
        have o59 : vp_in v1 24 := vi_of rfl (by omega) (by omega)
        refine ⟨o59, ?_⟩
        have t60 : 0 ≤ (I54 b57 v1.toNatClampNeg).toInt ∧ (I54 b57 v1.toNatClampNeg).toInt ≤ 20 := w_I54.arr 8 2 kb40 eb57 kb57 rfl rfl _
        intro x61 ex61
        have rx61 := i_rng x61
        first | (have tx61 : x61.toInt = (I54 b57 v1.toNatClampNeg).toInt := by (rw [ex61]; exact rfl)) | (have tx61 : x61.toInt = (I54 b57 v1.toNatClampNeg).toInt := by rw [ex61])
        refine s_X11_isAsked w_I54 x61    (fun r62 p63 => ?_)
        have rr62 := i_rng r62
        refine ⟨fun c64 => ?_, fun c64 => ?_⟩
        · skip
          first | (have t65 : r62.toInt = (0) := (i_eq rfl (show (0 : Int32).toInt = 0 from rfl)).mp c64) | (have t65 : r62.toInt = (0 : Int32).toInt := (i_eq rfl rfl).mp c64) | skip
          unfold f_X6_offerBy_b126
          refine s_X6_keyOf w_I54 v0 v3 x25 kv0  (by omega) (fun r66  => ?_)
          intro x67 ex67
          have t68 : (0 : Int32).toInt = 0 := rfl
          exact ⟨(21 - (0 : Int32).toInt).toNat + 1, l_X6_offerBy_L150 w_I v0 v1 v2 v3 kv0 p0 x67  hQ   _ (0 : Int32) I54 L55 w_I54 q_I54   (by omega)  (by omega)⟩
        · skip
          first | (have t69 : ¬ (r62.toInt = (0)) := (not_congr (i_eq rfl (show (0 : Int32).toInt = 0 from rfl))).mp c64) | (have t69 : ¬ (r62.toInt = (0 : Int32).toInt) := (not_congr (i_eq rfl rfl)).mp c64) | skip
          intro b70 eb70
          obtain rfl : b49 = b70 := Option.some.inj (eb49.symm.trans eb70)
          have o71 : vp_in x61 21 := vi_of rfl (by omega) (by omega)
          refine ⟨o71, ?_⟩
          unfold f_X6_offerBy_b126
          refine s_X6_keyOf w_I54 v0 v3 x25 kv0  (by omega) (fun r72  => ?_)
          intro x73 ex73
          have t74 : (0 : Int32).toInt = 0 := rfl
          exact ⟨(21 - (0 : Int32).toInt).toNat + 1, l_X6_offerBy_L150 w_I v0 v1 v2 v3 kv0 p0 x73  hQ   _ (0 : Int32) I54 L55 w_I54 q_I54   (by omega)  (by omega)⟩
      · skip
        first | (have t75 : v3.toInt = (v1.toInt + (1)) := (i_eq rfl (i_add rfl (show (1 : Int32).toInt = 1 from rfl) (by omega) (by omega))).mp c46) | (have t75 : v3.toInt = (v1 + (1 : Int32)).toInt := (i_eq rfl rfl).mp c46) | skip
        unfold f_X6_offerBy_b69
        intro b76 eb76
        obtain rfl : b40 = b76 := Option.some.inj (eb40.symm.trans eb76)
        intro b77 eb77
        obtain ⟨x78, ex78, kb77, lb77⟩ := sh_f w_I.1 kv0 (j := 13) (k := 14) (m := 21) rfl
        cases eb77.symm.trans ex78
        have t79 : (0 : Int32).toInt = 0 := rfl
        try (have t80 : (v2 - (1 : Int32)).toInt = (v2.toInt - (1)) := (i_sub rfl (show (1 : Int32).toInt = 1 from rfl) (by omega) (by omega)))
        try (have t81 : (x25 - (1 : Int32)).toInt = (x25.toInt - (1)) := (i_sub rfl (show (1 : Int32).toInt = 1 from rfl) (by omega) (by omega)))
        refine s_X8_pricesInto w_I b40 b77 (0 : Int32) v1 (v2 - (1 : Int32)) (x25 - (1 : Int32)) (I v0 14) kb40 kb77 v0 6 13 kv0 eb77 (by decide) rfl (by omega) (by intro i v; first | trivial | exact p1 i v) (fun  I82 L83 w_I82 f_I82  => ?_)
        have q_I82 : FR Ws_X6_offerBy Z I Z I82 := q_I.trans w_I.1 w_I.2.1 (f_I82.mono (by first | decide | (intro p hp; simp at hp ⊢; omega) | simp))
        intro b84 eb84
        obtain rfl : b40 = b84 := Option.some.inj (eb40.symm.trans eb84)
        intro b85 eb85
        obtain ⟨x86, ex86, kb85, lb85⟩ := sh_f w_I82.1 kb40 (j := 2) (k := 14) (m := 24) rfl
        cases eb85.symm.trans ex86
        have o87 : vp_in v1 24 := vi_of rfl (by omega) (by omega)
        refine ⟨o87, ?_⟩
        have t88 : 0 ≤ (I82 b85 v1.toNatClampNeg).toInt ∧ (I82 b85 v1.toNatClampNeg).toInt ≤ 20 := w_I82.arr 8 2 kb40 eb85 kb85 rfl rfl _
        intro x89 ex89
        have rx89 := i_rng x89
        first | (have tx89 : x89.toInt = (I82 b85 v1.toNatClampNeg).toInt := by (rw [ex89]; exact rfl)) | (have tx89 : x89.toInt = (I82 b85 v1.toNatClampNeg).toInt := by rw [ex89])
        refine s_X11_isAsked w_I82 x89    (fun r90 p91 => ?_)
        have rr90 := i_rng r90
        refine ⟨fun c92 => ?_, fun c92 => ?_⟩
        · skip
          first | (have t93 : r90.toInt = (0) := (i_eq rfl (show (0 : Int32).toInt = 0 from rfl)).mp c92) | (have t93 : r90.toInt = (0 : Int32).toInt := (i_eq rfl rfl).mp c92) | skip
          unfold f_X6_offerBy_b126
          refine s_X6_keyOf w_I82 v0 v3 x25 kv0  (by omega) (fun r94  => ?_)
          intro x95 ex95
          have t96 : (0 : Int32).toInt = 0 := rfl
          exact ⟨(21 - (0 : Int32).toInt).toNat + 1, l_X6_offerBy_L150 w_I v0 v1 v2 v3 kv0 p0 x95  hQ   _ (0 : Int32) I82 L83 w_I82 q_I82   (by omega)  (by omega)⟩
        · skip
          first | (have t97 : ¬ (r90.toInt = (0)) := (not_congr (i_eq rfl (show (0 : Int32).toInt = 0 from rfl))).mp c92) | (have t97 : ¬ (r90.toInt = (0 : Int32).toInt) := (not_congr (i_eq rfl rfl)).mp c92) | skip
          intro b98 eb98
          obtain rfl : b77 = b98 := Option.some.inj (eb77.symm.trans eb98)
          have o99 : vp_in x89 21 := vi_of rfl (by omega) (by omega)
          refine ⟨o99, ?_⟩
          unfold f_X6_offerBy_b126
          refine s_X6_keyOf w_I82 v0 v3 x25 kv0  (by omega) (fun r100  => ?_)
          intro x101 ex101
          have t102 : (0 : Int32).toInt = 0 := rfl
          exact ⟨(21 - (0 : Int32).toInt).toNat + 1, l_X6_offerBy_L150 w_I v0 v1 v2 v3 kv0 p0 x101  hQ   _ (0 : Int32) I82 L83 w_I82 q_I82   (by omega)  (by omega)⟩
    · skip
      first | (have t103 : r42.toInt = (0) := (i_eq rfl (show (0 : Int32).toInt = 0 from rfl)).mp c44) | (have t103 : r42.toInt = (0 : Int32).toInt := (i_eq rfl rfl).mp c44) | skip
      exact hQ  I L w_I q_I 
set_option maxHeartbeats 4000000 in
set_option maxRecDepth 100000 in
theorem l_X6_addOffers_L88 {Z : jZ} {I0 : jI} {Q : jI → jL → Prop} (w0 : WD Z I0) (v0 : Nat) (v1 : Int32) (v2 : Nat) (v3 : Nat) (kv0 : jk Z v0 6) (kv2 : jk Z v2 14) (kv3 : jk Z v3 14) (o2_ c2_ j2_ : Nat) (ho2 : jk Z o2_ c2_) (hr2 : jr Z o2_ j2_ = some v2) (h72 : c2_ ≠ 7) (hs2 : jsr c2_ j2_ = false) (o3_ c3_ j3_ : Nat) (ho3 : jk Z o3_ c3_) (hr3 : jr Z o3_ j3_ = some v3) (h73 : c3_ ≠ 7) (hs3 : jsr c3_ j3_ = false) (p0 : jlen Z v2 = 21) (p1 : jlen Z v3 = 21) (p2 : ∀ i v, okA c2_ j2_ i v) (p3 : ∀ i v, okA c3_ j3_ i v) (p4 : 0 ≤ v1.toInt ∧ v1.toInt ≤ 23) (hQ : ∀  (I' : jI) (L' : jL), WD Z I' → FR ((c2_, j2_) :: (c3_, j3_) :: [(3, 2), (6, 12), (6, 13), (8, 8)]) Z I0 Z I' → Q I' L') : ∀ (n : Nat) (v4 : Int32) (I : jI) (L : jL), WD Z I → FR ((c2_, j2_) :: (c3_, j3_) :: [(3, 2), (6, 12), (6, 13), (8, 8)]) Z I0 Z I →   (0 ≤ v4.toInt ∧ v4.toInt ≤ 21) → 21 - v4.toInt < (n : Int) → f_X6_addOffers_L88  Z Q n v0 v2 v3 v4 I L := by
  intro n
  induction n with
  | zero =>
    intro v4 I L w_I q_I   li  me
    exfalso
    omega
  | succ n ih =>
    intro v4 I L w_I q_I   li  me
    unfold f_X6_addOffers_L88
    have rv4 := i_rng v4
    have rv1 := i_rng v1
    refine ⟨fun c1 => ?_, fun c1 => ?_⟩
    · skip
      first | (have t2 : (20) < v4.toInt := (i_lt (show (20 : Int32).toInt = 20 from rfl) rfl).mp c1) | (have t2 : (20 : Int32).toInt < v4.toInt := (i_lt rfl rfl).mp c1) | skip
      exact hQ  I L w_I q_I 
    · skip
      first | (have t3 : ¬ ((20) < v4.toInt) := (not_congr (i_lt (show (20 : Int32).toInt = 20 from rfl) rfl)).mp c1) | (have t3 : ¬ ((20 : Int32).toInt < v4.toInt) := (not_congr (i_lt rfl rfl)).mp c1) | skip
      intro b4 eb4
      obtain ⟨x5, ex5, kb4, lb4⟩ := sh_f w_I.1 kv0 (j := 11) (k := 15) (m := 21) rfl
      cases eb4.symm.trans ex5
      have o6 : vp_in v4 21 := vi_of rfl (by omega) (by omega)
      refine ⟨o6, ?_⟩
      refine ⟨fun c7 => ?_, fun c7 => ?_⟩
      · skip
        first | (have t8 : (lg_cmp (L b4 v4.toNatClampNeg) (9223372036854775807 : Int64)).toInt = (0) := (i_eq rfl (show (0 : Int32).toInt = 0 from rfl)).mp c7) | (have t8 : (lg_cmp (L b4 v4.toNatClampNeg) (9223372036854775807 : Int64)).toInt = (0 : Int32).toInt := (i_eq rfl rfl).mp c7) | skip
        unfold f_X6_addOffers_b148
        intro x9 ex9
        have rx9 := i_rng x9
        first | (have tx9 : x9.toInt = v4.toInt + (1) := by (rw [ex9]; exact (i_add rfl (show (1 : Int32).toInt = 1 from rfl) (by omega) (by omega)))) | skip
        exact ih x9 I L w_I q_I   (by omega)  (by omega)
      · skip
        first | (have t10 : ¬ ((lg_cmp (L b4 v4.toNatClampNeg) (9223372036854775807 : Int64)).toInt = (0)) := (not_congr (i_eq rfl (show (0 : Int32).toInt = 0 from rfl))).mp c7) | (have t10 : ¬ ((lg_cmp (L b4 v4.toNatClampNeg) (9223372036854775807 : Int64)).toInt = (0 : Int32).toInt) := (not_congr (i_eq rfl rfl)).mp c7) | skip
        intro b11 eb11
        obtain rfl : b4 = b11 := Option.some.inj (eb4.symm.trans eb11)
        have o12 : vp_in v4 21 := vi_of rfl (by omega) (by omega)
        refine ⟨o12, ?_⟩
        refine s_X11_costIn w_I (L b4 v4.toNatClampNeg)    (fun r13  => ?_)
        have rr13 := i_rng r13
        refine ⟨fun c14 => ?_, fun c14 => ?_⟩
        · skip
          first | (have t15 : (I v0 2).toInt < r13.toInt := (i_lt rfl rfl).mp c14) | (have t15 : (I v0 2).toInt < r13.toInt := (i_lt rfl rfl).mp c14) | skip
          unfold f_X6_addOffers_b148
          intro x16 ex16
          have rx16 := i_rng x16
          first | (have tx16 : x16.toInt = v4.toInt + (1) := by (rw [ex16]; exact (i_add rfl (show (1 : Int32).toInt = 1 from rfl) (by omega) (by omega)))) | skip
          exact ih x16 I L w_I q_I   (by omega)  (by omega)
        · skip
          first | (have t17 : ¬ ((I v0 2).toInt < r13.toInt) := (not_congr (i_lt rfl rfl)).mp c14) | (have t17 : ¬ ((I v0 2).toInt < r13.toInt) := (not_congr (i_lt rfl rfl)).mp c14) | skip
          have o18 : vp_in v4 (jlen Z v2) := vi_of rfl (by omega) (by omega)
          refine ⟨o18, ?_⟩
          intro b19 eb19
          obtain ⟨x20, ex20, kb19, lb19⟩ := sh_f w_I.1 kv0 (j := 12) (k := 14) (m := 21) rfl
          cases eb19.symm.trans ex20
          have o21 : vp_in v4 21 := vi_of rfl (by omega) (by omega)
          refine ⟨o21, ?_⟩
          have o22 : vp_in v4 (jlen Z v2) := vi_of rfl (by omega) (by omega)
          refine ⟨o22, ?_⟩
          intro I23 eI23
          try (have t24 : ((I v2 v4.toNatClampNeg) + (I b19 v4.toNatClampNeg)).toInt = ((I v2 v4.toNatClampNeg).toInt + (I b19 v4.toNatClampNeg).toInt) := (i_add rfl rfl (by omega) (by omega)))
          have w_I23 : WD Z I23 := by rw [eI23]; exact WD_putA w_I c2_ j2_ ho2 hr2 kv2 rfl hs2 h72 (p2 _ _)
          have f_I23 : FR [(c2_, j2_)] Z I Z I23 := by rw [eI23]; exact FR_upA w_I.2.1 ho2 hr2 kv2 rfl hs2 List.mem_cons_self
          have q_I23 : FR ((c2_, j2_) :: (c3_, j3_) :: [(3, 2), (6, 12), (6, 13), (8, 8)]) Z I0 Z I23 := q_I.trans w0.1 w0.2.1 (f_I23.mono (by simp))
          have o25 : vp_in v4 (jlen Z v3) := vi_of rfl (by omega) (by omega)
          refine ⟨o25, ?_⟩
          have o26 : vp_in v4 (jlen Z v3) := vi_of rfl (by omega) (by omega)
          refine ⟨o26, ?_⟩
          intro I27 eI27
          try (have t28 : ((I23 v3 v4.toNatClampNeg) + (1 : Int32)).toInt = ((I23 v3 v4.toNatClampNeg).toInt + (1)) := (i_add rfl (show (1 : Int32).toInt = 1 from rfl) (by omega) (by omega)))
          have w_I27 : WD Z I27 := by rw [eI27]; exact WD_putA w_I23 c3_ j3_ ho3 hr3 kv3 rfl hs3 h73 (p3 _ _)
          have f_I27 : FR [(c3_, j3_)] Z I23 Z I27 := by rw [eI27]; exact FR_upA w_I23.2.1 ho3 hr3 kv3 rfl hs3 List.mem_cons_self
          have q_I27 : FR ((c2_, j2_) :: (c3_, j3_) :: [(3, 2), (6, 12), (6, 13), (8, 8)]) Z I0 Z I27 := q_I23.trans w0.1 w0.2.1 (f_I27.mono (by simp))
          unfold f_X6_addOffers_b148
          intro x29 ex29
          have rx29 := i_rng x29
          first | (have tx29 : x29.toInt = v4.toInt + (1) := by (rw [ex29]; exact (i_add rfl (show (1 : Int32).toInt = 1 from rfl) (by omega) (by omega)))) | skip
          exact ih x29 I27 L w_I27 q_I27   (by omega)  (by omega)
set_option maxHeartbeats 4000000 in
set_option maxRecDepth 100000 in
theorem l_X6_addOffers_L48 {Z : jZ} {I0 : jI} {Q : jI → jL → Prop} (w0 : WD Z I0) (v0 : Nat) (v1 : Int32) (v2 : Nat) (v3 : Nat) (kv0 : jk Z v0 6) (kv2 : jk Z v2 14) (kv3 : jk Z v3 14) (o2_ c2_ j2_ : Nat) (ho2 : jk Z o2_ c2_) (hr2 : jr Z o2_ j2_ = some v2) (h72 : c2_ ≠ 7) (hs2 : jsr c2_ j2_ = false) (o3_ c3_ j3_ : Nat) (ho3 : jk Z o3_ c3_) (hr3 : jr Z o3_ j3_ = some v3) (h73 : c3_ ≠ 7) (hs3 : jsr c3_ j3_ = false) (p0 : jlen Z v2 = 21) (p1 : jlen Z v3 = 21) (p2 : ∀ i v, okA c2_ j2_ i v) (p3 : ∀ i v, okA c3_ j3_ i v) (p4 : 0 ≤ v1.toInt ∧ v1.toInt ≤ 23) (v4 : Int32) (hQ : ∀  (I' : jI) (L' : jL), WD Z I' → FR ((c2_, j2_) :: (c3_, j3_) :: [(3, 2), (6, 12), (6, 13), (8, 8)]) Z I0 Z I' → Q I' L') {K15 : Nat → Int32 → Nat → Nat → Int32 → jI → jL → Prop} {N15 : Int} (hK15 : ∀ (v4 : Int32) (I : jI) (L : jL), WD Z I → FR ((c2_, j2_) :: (c3_, j3_) :: [(3, 2), (6, 12), (6, 13), (8, 8)]) Z I0 Z I →   (1 ≤ v4.toInt ∧ v1.toInt < v4.toInt ∧ v4.toInt ≤ 27) → 27 - v4.toInt < N15 → K15 v0 v1 v2 v3 v4 I L) : ∀ (n : Nat) (v5 : Int32) (I : jI) (L : jL), WD Z I → FR ((c2_, j2_) :: (c3_, j3_) :: [(3, 2), (6, 12), (6, 13), (8, 8)]) Z I0 Z I →   (0 ≤ v5.toInt ∧ v4.toInt - v5.toInt ≤ 3 ∧ v1.toInt < v4.toInt ∧ v4.toInt ≤ 24 ∧ v5.toInt ≤ v4.toInt) → 27 - v4.toInt ≤ N15 → 24 - v5.toInt < (n : Int) → f_X6_addOffers_L48 K15 Z Q n v0 v1 v2 v3 v4 v5 I L := by
  intro n
  induction n with
  | zero =>
    intro v5 I L w_I q_I   li hm15 me
    exfalso
    omega
  | succ n ih =>
    intro v5 I L w_I q_I   li hm15 me
    unfold f_X6_addOffers_L48
    have rv5 := i_rng v5
    have rv4 := i_rng v4
    have rv1 := i_rng v1
    refine ⟨fun c30 => ?_, fun c30 => ?_⟩
    · skip
      first | (have t31 : v1.toInt < v5.toInt := (i_lt rfl rfl).mp c30) | (have t31 : v1.toInt < v5.toInt := (i_lt rfl rfl).mp c30) | skip
      unfold f_X6_addOffers_b79
      intro x32 ex32
      have rx32 := i_rng x32
      first | (have tx32 : x32.toInt = v4.toInt + (1) := by (rw [ex32]; exact (i_add rfl (show (1 : Int32).toInt = 1 from rfl) (by omega) (by omega)))) | skip
      exact hK15 x32 I L w_I q_I   (by omega)  (by omega)
    · skip
      first | (have t33 : ¬ (v1.toInt < v5.toInt) := (not_congr (i_lt rfl rfl)).mp c30) | (have t33 : ¬ (v1.toInt < v5.toInt) := (not_congr (i_lt rfl rfl)).mp c30) | skip
      intro b34 eb34
      obtain ⟨x35, ex35, kb34, lb34⟩ := sh_f w_I.1 kv0 (j := 6) (k := 16) (m := 25) rfl
      cases eb34.symm.trans ex35
      have o36 : vp_in v4 25 := vi_of rfl (by omega) (by omega)
      refine ⟨o36, ?_⟩
      refine ⟨fun c37 => ?_, fun c37 => ?_⟩
      · skip
        first | (have t38 : (I b34 v4.toNatClampNeg).toInt = (0) := (i_eq rfl (show (0 : Int32).toInt = 0 from rfl)).mp c37) | (have t38 : (I b34 v4.toNatClampNeg).toInt = (0 : Int32).toInt := (i_eq rfl rfl).mp c37) | skip
        unfold f_X6_addOffers_b79
        intro x39 ex39
        have rx39 := i_rng x39
        first | (have tx39 : x39.toInt = v4.toInt + (1) := by (rw [ex39]; exact (i_add rfl (show (1 : Int32).toInt = 1 from rfl) (by omega) (by omega)))) | skip
        exact hK15 x39 I L w_I q_I   (by omega)  (by omega)
      · skip
        first | (have t40 : ¬ ((I b34 v4.toNatClampNeg).toInt = (0)) := (not_congr (i_eq rfl (show (0 : Int32).toInt = 0 from rfl))).mp c37) | (have t40 : ¬ ((I b34 v4.toNatClampNeg).toInt = (0 : Int32).toInt) := (not_congr (i_eq rfl rfl)).mp c37) | skip
        refine s_X6_offerBy w_I v0 v1 v5 v4 kv0  (by omega) (fun  I41 L42 w_I41 f_I41  => ?_)
        have q_I41 : FR ((c2_, j2_) :: (c3_, j3_) :: [(3, 2), (6, 12), (6, 13), (8, 8)]) Z I0 Z I41 := q_I.trans w0.1 w0.2.1 (f_I41.mono (by first | decide | (unfold Ws_X6_offerBy; simp) | simp))
        intro x43 ex43
        have rx43 := i_rng x43
        first | (have tx43 : x43.toInt = v5.toInt + (1) := by (rw [ex43]; exact (i_add rfl (show (1 : Int32).toInt = 1 from rfl) (by omega) (by omega)))) | skip
        exact ih x43 I41 L42 w_I41 q_I41   (by omega) (by omega) (by omega)
set_option maxHeartbeats 4000000 in
set_option maxRecDepth 100000 in
theorem l_X6_addOffers_L15 {Z : jZ} {I0 : jI} {Q : jI → jL → Prop} (w0 : WD Z I0) (v0 : Nat) (v1 : Int32) (v2 : Nat) (v3 : Nat) (kv0 : jk Z v0 6) (kv2 : jk Z v2 14) (kv3 : jk Z v3 14) (o2_ c2_ j2_ : Nat) (ho2 : jk Z o2_ c2_) (hr2 : jr Z o2_ j2_ = some v2) (h72 : c2_ ≠ 7) (hs2 : jsr c2_ j2_ = false) (o3_ c3_ j3_ : Nat) (ho3 : jk Z o3_ c3_) (hr3 : jr Z o3_ j3_ = some v3) (h73 : c3_ ≠ 7) (hs3 : jsr c3_ j3_ = false) (p0 : jlen Z v2 = 21) (p1 : jlen Z v3 = 21) (p2 : ∀ i v, okA c2_ j2_ i v) (p3 : ∀ i v, okA c3_ j3_ i v) (p4 : 0 ≤ v1.toInt ∧ v1.toInt ≤ 23) (hQ : ∀  (I' : jI) (L' : jL), WD Z I' → FR ((c2_, j2_) :: (c3_, j3_) :: [(3, 2), (6, 12), (6, 13), (8, 8)]) Z I0 Z I' → Q I' L') : ∀ (n : Nat) (v4 : Int32) (I : jI) (L : jL), WD Z I → FR ((c2_, j2_) :: (c3_, j3_) :: [(3, 2), (6, 12), (6, 13), (8, 8)]) Z I0 Z I →   (1 ≤ v4.toInt ∧ v1.toInt < v4.toInt ∧ v4.toInt ≤ 27) → 27 - v4.toInt < (n : Int) → f_X6_addOffers_L15  Z Q n v0 v1 v2 v3 v4 I L := by
  intro n
  induction n with
  | zero =>
    intro v4 I L w_I q_I   li  me
    exfalso
    omega
  | succ n ih =>
    intro v4 I L w_I q_I   li  me
    unfold f_X6_addOffers_L15
    have rv4 := i_rng v4
    have rv1 := i_rng v1
    have t45 : 0 ≤ (I v0 15).toInt ∧ (I v0 15).toInt ≤ 24 := w_I.fld 6 15 kv0 (by decide)
    refine ⟨fun c46 => ?_, fun c46 => ?_⟩
    · skip
      first | (have t47 : (I v0 15).toInt < v4.toInt := (i_lt rfl rfl).mp c46) | (have t47 : (I v0 15).toInt < v4.toInt := (i_lt rfl rfl).mp c46) | skip
      unfold f_X6_addOffers_b85
      have t48 : (0 : Int32).toInt = 0 := rfl
      exact ⟨(21 - (0 : Int32).toInt).toNat + 1, l_X6_addOffers_L88 w0 v0 v1 v2 v3 kv0 kv2 kv3 o2_ c2_ j2_ ho2 hr2 h72 hs2 o3_ c3_ j3_ ho3 hr3 h73 hs3 p0 p1 p2 p3 p4   hQ   _ (0 : Int32) I L w_I q_I   (by omega)  (by omega)⟩
    · skip
      first | (have t49 : ¬ ((I v0 15).toInt < v4.toInt) := (not_congr (i_lt rfl rfl)).mp c46) | (have t49 : ¬ ((I v0 15).toInt < v4.toInt) := (not_congr (i_lt rfl rfl)).mp c46) | skip
      have t51 : 0 ≤ (I v0 3).toInt ∧ (I v0 3).toInt ≤ 3 := w_I.fld 6 3 kv0 (by decide)
      refine ⟨fun c52 => ?_, fun c52 => ?_⟩
      · skip
        first | (have t53 : (v1.toInt + (I v0 3).toInt) < v4.toInt := (i_lt (i_add rfl rfl (by omega) (by omega)) rfl).mp c52) | (have t53 : (v1 + (I v0 3)).toInt < v4.toInt := (i_lt rfl rfl).mp c52) | skip
        unfold f_X6_addOffers_b85
        have t54 : (0 : Int32).toInt = 0 := rfl
        exact ⟨(21 - (0 : Int32).toInt).toNat + 1, l_X6_addOffers_L88 w0 v0 v1 v2 v3 kv0 kv2 kv3 o2_ c2_ j2_ ho2 hr2 h72 hs2 o3_ c3_ j3_ ho3 hr3 h73 hs3 p0 p1 p2 p3 p4   hQ   _ (0 : Int32) I L w_I q_I   (by omega)  (by omega)⟩
      · skip
        first | (have t55 : ¬ ((v1.toInt + (I v0 3).toInt) < v4.toInt) := (not_congr (i_lt (i_add rfl rfl (by omega) (by omega)) rfl)).mp c52) | (have t55 : ¬ ((v1 + (I v0 3)).toInt < v4.toInt) := (not_congr (i_lt rfl rfl)).mp c52) | skip
        have t57 : 0 ≤ (I v0 3).toInt ∧ (I v0 3).toInt ≤ 3 := w_I.fld 6 3 kv0 (by decide)
        intro x58 ex58
        have rx58 := i_rng x58
        first | (have tx58 : x58.toInt = (max (0) (v4.toInt - (I v0 3).toInt)) := by (rw [ex58]; exact (i_max (show (0 : Int32).toInt = 0 from rfl) (i_sub rfl rfl (by omega) (by omega))))) | (have tx58 : x58.toInt = (if (0 : Int32) < (v4 - (I v0 3)) then (v4 - (I v0 3)) else (0 : Int32)).toInt := by rw [ex58])
        exact ⟨(24 - x58.toInt).toNat + 1, l_X6_addOffers_L48 w0 v0 v1 v2 v3 kv0 kv2 kv3 o2_ c2_ j2_ ho2 hr2 h72 hs2 o3_ c3_ j3_ ho3 hr3 h73 hs3 p0 p1 p2 p3 p4 v4  hQ ih  _ x58 I L w_I q_I   (by omega) (by omega) (by omega)⟩
set_option maxHeartbeats 4000000 in
set_option maxRecDepth 100000 in
theorem s_X6_addOffers {Z : jZ} {I : jI} {L : jL} (w_I : WD Z I) (v0 : Nat) (v1 : Int32) (v2 : Nat) (v3 : Nat) (kv0 : jk Z v0 6) (kv2 : jk Z v2 14) (kv3 : jk Z v3 14) (o2_ c2_ j2_ : Nat) (ho2 : jk Z o2_ c2_) (hr2 : jr Z o2_ j2_ = some v2) (h72 : c2_ ≠ 7) (hs2 : jsr c2_ j2_ = false) (o3_ c3_ j3_ : Nat) (ho3 : jk Z o3_ c3_) (hr3 : jr Z o3_ j3_ = some v3) (h73 : c3_ ≠ 7) (hs3 : jsr c3_ j3_ = false) (p0 : jlen Z v2 = 21) (p1 : jlen Z v3 = 21) (p2 : ∀ i v, okA c2_ j2_ i v) (p3 : ∀ i v, okA c3_ j3_ i v) (p4 : 0 ≤ v1.toInt ∧ v1.toInt ≤ 23) {Q : jI → jL → Prop} (hQ : ∀  (I' : jI) (L' : jL), WD Z I' → FR ((c2_, j2_) :: (c3_, j3_) :: [(3, 2), (6, 12), (6, 13), (8, 8)]) Z I Z I' → Q I' L') : f_X6_addOffers v0 v1 v2 v3 Z I L Q := by
  unfold f_X6_addOffers
  have q_I : FR ((c2_, j2_) :: (c3_, j3_) :: [(3, 2), (6, 12), (6, 13), (8, 8)]) Z I Z I := FR.rf
  have rv1 := i_rng v1
  intro b59 eb59
  obtain ⟨x60, ex60, kb59, lb59⟩ := sh_f w_I.1 kv0 (j := 11) (k := 15) (m := 21) rfl
  cases eb59.symm.trans ex60
  refine s_J7_fill_d0a16 w_I b59 (9223372036854775807 : Int64) kb59  (by omega) (fun  I61 L62 w_I61 f_I61  => ?_)
  have q_I61 : FR ((c2_, j2_) :: (c3_, j3_) :: [(3, 2), (6, 12), (6, 13), (8, 8)]) Z I Z I61 := q_I.trans w_I.1 w_I.2.1 (f_I61.mono (by first | decide | (unfold Ws_J7_fill_d0a16; simp) | simp))
  intro x63 ex63
  have rx63 := i_rng x63
  first | (have tx63 : x63.toInt = (v1.toInt + (1)) := by (rw [ex63]; exact (i_add rfl (show (1 : Int32).toInt = 1 from rfl) (by omega) (by omega)))) | (have tx63 : x63.toInt = (v1 + (1 : Int32)).toInt := by rw [ex63])
  exact ⟨(27 - x63.toInt).toNat + 1, l_X6_addOffers_L15 w_I v0 v1 v2 v3 kv0 kv2 kv3 o2_ c2_ j2_ ho2 hr2 h72 hs2 o3_ c3_ j3_ ho3 hr3 h73 hs3 p0 p1 p2 p3 p4   hQ   _ x63 I61 L62 w_I61 q_I61   (by omega)  (by omega)⟩
def Ws_X11_weigh : List (Nat × Nat) := [(3, 2), (6, 12), (6, 13), (8, 8), (11, 13), (11, 14)]
set_option maxHeartbeats 4000000 in
set_option maxRecDepth 100000 in
theorem l_X11_weigh_L18 {Z : jZ} {I0 : jI} {Q : jI → jL → Prop} (w0 : WD Z I0) (v0 : Nat) (v1 : Int32) (kv0 : jk Z v0 11) (p0 : 0 ≤ v1.toInt ∧ v1.toInt ≤ 23) (hQ : ∀  (I' : jI) (L' : jL), WD Z I' → FR Ws_X11_weigh Z I0 Z I' → Q I' L') : ∀ (n : Nat) (v2 : Int32) (I : jI) (L : jL), WD Z I → FR Ws_X11_weigh Z I0 Z I →   (0 ≤ v2.toInt ∧ v2.toInt ≤ 6) → 6 - v2.toInt < (n : Int) → f_X11_weigh_L18  Z Q n v0 v1 v2 I L := by
  intro n
  induction n with
  | zero =>
    intro v2 I L w_I q_I   li  me
    exfalso
    omega
  | succ n ih =>
    intro v2 I L w_I q_I   li  me
    unfold f_X11_weigh_L18
    have rv2 := i_rng v2
    have rv1 := i_rng v1
    have t2 : 0 ≤ (I v0 4).toInt ∧ (I v0 4).toInt ≤ 6 := w_I.fld 11 4 kv0 (by decide)
    refine ⟨fun c3 => ?_, fun c3 => ?_⟩
    · skip
      first | (have t4 : (I v0 4).toInt ≤ v2.toInt := (i_le rfl rfl).mp c3) | (have t4 : (I v0 4).toInt ≤ v2.toInt := (i_le rfl rfl).mp c3) | skip
      exact hQ  I L w_I q_I 
    · skip
      first | (have t5 : ¬ ((I v0 4).toInt ≤ v2.toInt) := (not_congr (i_le rfl rfl)).mp c3) | (have t5 : ¬ ((I v0 4).toInt ≤ v2.toInt) := (not_congr (i_le rfl rfl)).mp c3) | skip
      refine s_X11_find w_I v0 v2 kv0   (fun r6 p7 => ?_)
      refine ⟨fun c9 => ?_, fun b8 c9 => ?_⟩
      · skip
        unfold f_X11_weigh_b52
        intro x10 ex10
        have rx10 := i_rng x10
        first | (have tx10 : x10.toInt = v2.toInt + (1) := by (rw [ex10]; exact (i_add rfl (show (1 : Int32).toInt = 1 from rfl) (by omega) (by omega)))) | skip
        exact ih x10 I L w_I q_I   (by omega)  (by omega)
      · skip
        have kb8 : jk Z b8 5 := by first | exact p7 b8 c9 | exact (p7 b8 c9).1 | exact (p7.1 b8 c9).1
        intro b11 eb11
        obtain ⟨x12, ex12, kb11⟩ := sh_o w_I.1 kb8 (j := 8) (k := 6) rfl
        cases eb11.symm.trans ex12
        intro b13 eb13
        obtain ⟨x14, ex14, kb13, lb13⟩ := sh_f w_I.1 kv0 (j := 13) (k := 14) (m := 21) rfl
        cases eb13.symm.trans ex14
        intro b15 eb15
        obtain ⟨x16, ex16, kb15, lb15⟩ := sh_f w_I.1 kv0 (j := 14) (k := 14) (m := 21) rfl
        cases eb15.symm.trans ex16
        refine s_X6_addOffers w_I b11 v1 b13 b15 kb11 kb13 kb15 v0 11 13 kv0 eb13 (by decide) rfl v0 11 14 kv0 eb15 (by decide) rfl (by omega) (by omega) (by intro i v; trivial) (by intro i v; trivial) (by omega) (fun  I17 L18 w_I17 f_I17  => ?_)
        have q_I17 : FR Ws_X11_weigh Z I0 Z I17 := q_I.trans w0.1 w0.2.1 (f_I17.mono (by first | decide | (intro p hp; simp at hp ⊢; omega) | simp))
        unfold f_X11_weigh_b52
        intro x19 ex19
        have rx19 := i_rng x19
        first | (have tx19 : x19.toInt = v2.toInt + (1) := by (rw [ex19]; exact (i_add rfl (show (1 : Int32).toInt = 1 from rfl) (by omega) (by omega)))) | skip
        exact ih x19 I17 L18 w_I17 q_I17   (by omega)  (by omega)
set_option maxHeartbeats 4000000 in
set_option maxRecDepth 100000 in
theorem s_X11_weigh {Z : jZ} {I : jI} {L : jL} (w_I : WD Z I) (v0 : Nat) (v1 : Int32) (kv0 : jk Z v0 11) (p0 : 0 ≤ v1.toInt ∧ v1.toInt ≤ 23) {Q : jI → jL → Prop} (hQ : ∀  (I' : jI) (L' : jL), WD Z I' → FR Ws_X11_weigh Z I Z I' → Q I' L') : f_X11_weigh v0 v1 Z I L Q := by
  unfold f_X11_weigh
  have q_I : FR Ws_X11_weigh Z I Z I := FR.rf
  have rv1 := i_rng v1
  intro b20 eb20
  obtain ⟨x21, ex21, kb20, lb20⟩ := sh_f w_I.1 kv0 (j := 13) (k := 14) (m := 21) rfl
  cases eb20.symm.trans ex21
  have t22 : (0 : Int32).toInt = 0 := rfl
  refine s_J7_fill_53178 w_I b20 (0 : Int32) kb20 v0 11 13 kv0 eb20 (by decide) rfl (by omega) (by intro i; first | trivial | exact p1 i _ | exact p2 i _ | (constructor <;> decide)) (fun  I23 L24 w_I23 f_I23  => ?_)
  have q_I23 : FR Ws_X11_weigh Z I Z I23 := q_I.trans w_I.1 w_I.2.1 (f_I23.mono (by first | decide | (intro p hp; simp at hp ⊢; omega) | simp))
  intro b25 eb25
  obtain ⟨x26, ex26, kb25, lb25⟩ := sh_f w_I23.1 kv0 (j := 14) (k := 14) (m := 21) rfl
  cases eb25.symm.trans ex26
  have t27 : (0 : Int32).toInt = 0 := rfl
  refine s_J7_fill_53178 w_I23 b25 (0 : Int32) kb25 v0 11 14 kv0 eb25 (by decide) rfl (by omega) (by intro i; first | trivial | exact p1 i _ | exact p2 i _ | (constructor <;> decide)) (fun  I28 L29 w_I28 f_I28  => ?_)
  have q_I28 : FR Ws_X11_weigh Z I Z I28 := q_I23.trans w_I.1 w_I.2.1 (f_I28.mono (by first | decide | (intro p hp; simp at hp ⊢; omega) | simp))
  have t30 : (0 : Int32).toInt = 0 := rfl
  exact ⟨(6 - (0 : Int32).toInt).toNat + 1, l_X11_weigh_L18 w_I v0 v1 kv0 p0   hQ   _ (0 : Int32) I28 L29 w_I28 q_I28   (by omega)  (by omega)⟩
def Ws_X11_measureAllAt : List (Nat × Nat) := [(3, 2), (6, 4), (6, 5), (8, 8)]
set_option maxHeartbeats 4000000 in
set_option maxRecDepth 100000 in
theorem l_X11_measureAllAt_L2 {Z : jZ} {I0 : jI} {Q : jI → jL → Prop} (w0 : WD Z I0) (v0 : Nat) (v1 : Int32) (kv0 : jk Z v0 11) (p0 : 0 ≤ v1.toInt ∧ v1.toInt ≤ 23) (hQ : ∀  (I' : jI) (L' : jL), WD Z I' → FR Ws_X11_measureAllAt Z I0 Z I' → Q I' L') : ∀ (n : Nat) (v2 : Int32) (I : jI) (L : jL), WD Z I → FR Ws_X11_measureAllAt Z I0 Z I →   (0 ≤ v2.toInt ∧ v2.toInt ≤ 6) → 6 - v2.toInt < (n : Int) → f_X11_measureAllAt_L2  Z Q n v0 v1 v2 I L := by
  intro n
  induction n with
  | zero =>
    intro v2 I L w_I q_I   li  me
    exfalso
    omega
  | succ n ih =>
    intro v2 I L w_I q_I   li  me
    unfold f_X11_measureAllAt_L2
    have rv2 := i_rng v2
    have rv1 := i_rng v1
    have t2 : 0 ≤ (I v0 4).toInt ∧ (I v0 4).toInt ≤ 6 := w_I.fld 11 4 kv0 (by decide)
    refine ⟨fun c3 => ?_, fun c3 => ?_⟩
    · skip
      first | (have t4 : (I v0 4).toInt ≤ v2.toInt := (i_le rfl rfl).mp c3) | (have t4 : (I v0 4).toInt ≤ v2.toInt := (i_le rfl rfl).mp c3) | skip
      exact hQ  I L w_I q_I 
    · skip
      first | (have t5 : ¬ ((I v0 4).toInt ≤ v2.toInt) := (not_congr (i_le rfl rfl)).mp c3) | (have t5 : ¬ ((I v0 4).toInt ≤ v2.toInt) := (not_congr (i_le rfl rfl)).mp c3) | skip
      refine s_X11_find w_I v0 v2 kv0   (fun r6 p7 => ?_)
      refine ⟨fun c9 => ?_, fun b8 c9 => ?_⟩
      · skip
        unfold f_X11_measureAllAt_b33
        intro x10 ex10
        have rx10 := i_rng x10
        first | (have tx10 : x10.toInt = v2.toInt + (1) := by (rw [ex10]; exact (i_add rfl (show (1 : Int32).toInt = 1 from rfl) (by omega) (by omega)))) | skip
        exact ih x10 I L w_I q_I   (by omega)  (by omega)
      · skip
        have kb8 : jk Z b8 5 := by first | exact p7 b8 c9 | exact (p7 b8 c9).1 | exact (p7.1 b8 c9).1
        intro b11 eb11
        obtain ⟨x12, ex12, kb11⟩ := sh_o w_I.1 kb8 (j := 8) (k := 6) rfl
        cases eb11.symm.trans ex12
        try (have t13 : (v1 + (1 : Int32)).toInt = (v1.toInt + (1)) := (i_add rfl (show (1 : Int32).toInt = 1 from rfl) (by omega) (by omega)))
        try (have t14 : (v1 + (3 : Int32)).toInt = (v1.toInt + (3)) := (i_add rfl (show (3 : Int32).toInt = 3 from rfl) (by omega) (by omega)))
        refine s_X6_measure w_I b11 (v1 + (1 : Int32)) (v1 + (3 : Int32)) kb11   (fun  I15 L16 w_I15 f_I15  => ?_)
        have q_I15 : FR Ws_X11_measureAllAt Z I0 Z I15 := q_I.trans w0.1 w0.2.1 (f_I15.mono (by decide))
        have u17 : (I15 v0 4).toInt = (I v0 4).toInt := by rw [f_I15.2.2.1 v0 11 4 kv0 (by decide) (by decide)]
        unfold f_X11_measureAllAt_b33
        intro x18 ex18
        have rx18 := i_rng x18
        first | (have tx18 : x18.toInt = v2.toInt + (1) := by (rw [ex18]; exact (i_add rfl (show (1 : Int32).toInt = 1 from rfl) (by omega) (by omega)))) | skip
        exact ih x18 I15 L16 w_I15 q_I15   (by omega)  (by omega)
set_option maxHeartbeats 4000000 in
set_option maxRecDepth 100000 in
theorem s_X11_measureAllAt {Z : jZ} {I : jI} {L : jL} (w_I : WD Z I) (v0 : Nat) (v1 : Int32) (kv0 : jk Z v0 11) (p0 : 0 ≤ v1.toInt ∧ v1.toInt ≤ 23) {Q : jI → jL → Prop} (hQ : ∀  (I' : jI) (L' : jL), WD Z I' → FR Ws_X11_measureAllAt Z I Z I' → Q I' L') : f_X11_measureAllAt v0 v1 Z I L Q := by
  unfold f_X11_measureAllAt
  have q_I : FR Ws_X11_measureAllAt Z I Z I := FR.rf
  have rv1 := i_rng v1
  have t19 : (0 : Int32).toInt = 0 := rfl
  exact ⟨(6 - (0 : Int32).toInt).toNat + 1, l_X11_measureAllAt_L2 w_I v0 v1 kv0 p0   hQ   _ (0 : Int32) I L w_I q_I   (by omega)  (by omega)⟩
