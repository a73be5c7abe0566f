section
/-! ===== the readers of a law: safe at every depth ===== -/
def Ws_R3 : List (Nat × Nat) := [(3, 1), (3, 5), (3, 6), (3, 8)]
def HS3 (d : Nat) (F : FTR3) : Prop := ∀ (w : Nat), w < 5 → ∀ (Z : jZ) (I : jI) (L : jL), WD Z I → ∀ (v0 v1 : Nat) (v2 : Int32), jk Z v0 3 → jk Z v1 10 → 5 * (5 - v2.toInt) - (w : Int) ≤ (d : Int) → (0 ≤ v2.toInt ∧ v2.toInt ≤ 4) → ∀ (Q : jI → jL → Prop), (∀ (I' : jI) (L' : jL), WD Z I' → FR Ws_R3 Z I Z I' → Q I' L') → F w v0 v1 v2 Z I L Q
set_option maxHeartbeats 4000000 in
set_option maxRecDepth 100000 in
theorem s_X3_readThing {d : Nat} {F : FTR3} (hF : HS3 d F) {Z : jZ} {I : jI} {L : jL} (w_I : WD Z I) (v0 : Nat) (v1 : Nat) (v2 : Int32) (kv0 : jk Z v0 3) (kv1 : jk Z v1 10) (p0 : 5 * (5 - v2.toInt) - 4 ≤ (d : Int) + 1 ∧ 0 ≤ v2.toInt ∧ v2.toInt ≤ 4) {Q : jI → jL → Prop} (hQ : ∀  (I' : jI) (L' : jL), WD Z I' → FR Ws_R3 Z I Z I' → Q I' L') : fs_X3_readThing F v0 v1 v2 Z I L Q := by
  unfold fs_X3_readThing
  have q_I : FR Ws_R3 Z I Z I := FR.rf
  have rv2 := i_rng v2
  refine s_X3_look w_I v0 v1 kv0 kv1   (fun r1 p2 => ?_)
  have rr1 := i_rng r1
  refine ⟨fun c3 => ?_, fun c3 => ?_⟩
  · skip
    first | (have t4 : ¬ (r1.toInt = (-1)) := (not_congr (i_eq rfl (show (-1 : Int32).toInt = -1 from rfl))).mp c3) | (have t4 : ¬ (r1.toInt = (-1 : Int32).toInt) := (not_congr (i_eq rfl rfl)).mp c3) | skip
    intro r5 pr5
    have rr5 := i_rng r5
    unfold fs_X3_readThing_b22
    refine ⟨fun c6 => ?_, fun c6 => ?_⟩
    · skip
      first | (have t7 : (I v0 8).toInt = (-1) := (i_eq rfl (show (-1 : Int32).toInt = -1 from rfl)).mp c6) | (have t7 : (I v0 8).toInt = (-1 : Int32).toInt := (i_eq rfl rfl).mp c6) | skip
      refine s_X10_isDigit w_I r1    (fun r8 p9 => ?_)
      have rr8 := i_rng r8
      refine ⟨fun c10 => ?_, fun c10 => ?_⟩
      · skip
        first | (have t11 : r8.toInt = (0) := (i_eq rfl (show (0 : Int32).toInt = 0 from rfl)).mp c10) | (have t11 : r8.toInt = (0 : Int32).toInt := (i_eq rfl rfl).mp c10) | skip
        refine ⟨fun c12 => ?_, fun c12 => ?_⟩
        · skip
          first | (have t13 : r5.toInt < (0) := (i_lt rfl (show (0 : Int32).toInt = 0 from rfl)).mp c12) | (have t13 : r5.toInt < (0 : Int32).toInt := (i_lt rfl rfl).mp c12) | skip
          refine ⟨fun c14 => ?_, fun c14 => ?_⟩
          · skip
            first | (have t15 : ¬ (r1.toInt = (40)) := (not_congr (i_eq rfl (show (40 : Int32).toInt = 40 from rfl))).mp c14) | (have t15 : ¬ (r1.toInt = (40 : Int32).toInt) := (not_congr (i_eq rfl rfl)).mp c14) | skip
            unfold fs_X3_readThing_b113
            intro I16 eI16
            have w_I16 : WD Z I16 := by rw [eI16]; exact WD_putF w_I 3 8 kv0 (by decide) (by decide) trivial
            have f_I16 : FR [(3, 8)] Z I Z I16 := by rw [eI16]; exact FR_putF kv0 (by decide) List.mem_cons_self
            have q_I16 : FR Ws_R3 Z I Z I16 := q_I.trans w_I.1 w_I.2.1 (f_I16.mono (by decide))
            have u17 : (I16 v0 6).toInt = (I v0 6).toInt := by rw [f_I16.2.2.1 v0 3 6 kv0 (by decide) (by decide)]
            first | (have u18 : (I16 v0 8).toInt = (I v0 6).toInt := by (rw [eI16, show jpI I v0 8 (I v0 6) v0 8 = (I v0 6) from jpI_at] <;> exact rfl)) | skip
            exact hQ  I16 L w_I16 q_I16 
          · skip
            first | (have t19 : r1.toInt = (40) := (i_eq rfl (show (40 : Int32).toInt = 40 from rfl)).mp c14) | (have t19 : r1.toInt = (40 : Int32).toInt := (i_eq rfl rfl).mp c14) | skip
            refine ⟨fun c20 => ?_, fun c20 => ?_⟩
            · skip
              first | (have t21 : (4) ≤ v2.toInt := (i_le (show (4 : Int32).toInt = 4 from rfl) rfl).mp c20) | (have t21 : (4 : Int32).toInt ≤ v2.toInt := (i_le rfl rfl).mp c20) | skip
              unfold fs_X3_readThing_b113
              intro I22 eI22
              have w_I22 : WD Z I22 := by rw [eI22]; exact WD_putF w_I 3 8 kv0 (by decide) (by decide) trivial
              have f_I22 : FR [(3, 8)] Z I Z I22 := by rw [eI22]; exact FR_putF kv0 (by decide) List.mem_cons_self
              have q_I22 : FR Ws_R3 Z I Z I22 := q_I.trans w_I.1 w_I.2.1 (f_I22.mono (by decide))
              have u23 : (I22 v0 6).toInt = (I v0 6).toInt := by rw [f_I22.2.2.1 v0 3 6 kv0 (by decide) (by decide)]
              first | (have u24 : (I22 v0 8).toInt = (I v0 6).toInt := by (rw [eI22, show jpI I v0 8 (I v0 6) v0 8 = (I v0 6) from jpI_at] <;> exact rfl)) | skip
              exact hQ  I22 L w_I22 q_I22 
            · skip
              first | (have t25 : ¬ ((4) ≤ v2.toInt) := (not_congr (i_le (show (4 : Int32).toInt = 4 from rfl) rfl)).mp c20) | (have t25 : ¬ ((4 : Int32).toInt ≤ v2.toInt) := (not_congr (i_le rfl rfl)).mp c20) | skip
              intro I26 eI26
              try (have t27 : ((I v0 6) + (1 : Int32)).toInt = ((I v0 6).toInt + (1)) := (i_add rfl (show (1 : Int32).toInt = 1 from rfl) (by omega) (by omega)))
              have w_I26 : WD Z I26 := by rw [eI26]; exact WD_putF w_I 3 6 kv0 (by decide) (by decide) trivial
              have f_I26 : FR [(3, 6)] Z I Z I26 := by rw [eI26]; exact FR_putF kv0 (by decide) List.mem_cons_self
              have q_I26 : FR Ws_R3 Z I Z I26 := q_I.trans w_I.1 w_I.2.1 (f_I26.mono (by decide))
              have u28 : (I26 v0 8).toInt = (I v0 8).toInt := by rw [f_I26.2.2.1 v0 3 8 kv0 (by decide) (by decide)]
              first | (have u29 : (I26 v0 6).toInt = ((I v0 6).toInt + (1)) := by (rw [eI26, show jpI I v0 6 ((I v0 6) + (1 : Int32)) v0 6 = ((I v0 6) + (1 : Int32)) from jpI_at] <;> exact (i_add rfl (show (1 : Int32).toInt = 1 from rfl) (by omega) (by omega)))) | skip
              try (have t30 : (v2 + (1 : Int32)).toInt = (v2.toInt + (1)) := (i_add rfl (show (1 : Int32).toInt = 1 from rfl) (by omega) (by omega)))
              refine hF 0 (by decide) Z I26 L w_I26 v0 v1 (v2 + (1 : Int32)) kv0 kv1 (by omega) (by omega) _ (fun I31 L32 w_I31 f_I31 => ?_)
              have q_I31 : FR Ws_R3 Z I Z I31 := q_I26.trans w_I.1 w_I.2.1 (f_I31.mono (by decide))
              refine s_X3_readClosing w_I31 v0 v1 kv0 kv1   (fun  I33 L34 w_I33 f_I33  => ?_)
              have q_I33 : FR Ws_R3 Z I Z I33 := q_I31.trans w_I.1 w_I.2.1 (f_I33.mono (by decide))
              exact hQ  I33 L34 w_I33 q_I33 
        · skip
          first | (have t35 : ¬ (r5.toInt < (0)) := (not_congr (i_lt rfl (show (0 : Int32).toInt = 0 from rfl))).mp c12) | (have t35 : ¬ (r5.toInt < (0 : Int32).toInt) := (not_congr (i_lt rfl rfl)).mp c12) | skip
          intro I36 eI36
          try (have t37 : ((I v0 6) + (1 : Int32)).toInt = ((I v0 6).toInt + (1)) := (i_add rfl (show (1 : Int32).toInt = 1 from rfl) (by omega) (by omega)))
          have w_I36 : WD Z I36 := by rw [eI36]; exact WD_putF w_I 3 6 kv0 (by decide) (by decide) trivial
          have f_I36 : FR [(3, 6)] Z I Z I36 := by rw [eI36]; exact FR_putF kv0 (by decide) List.mem_cons_self
          have q_I36 : FR Ws_R3 Z I Z I36 := q_I.trans w_I.1 w_I.2.1 (f_I36.mono (by decide))
          have u38 : (I36 v0 8).toInt = (I v0 8).toInt := by rw [f_I36.2.2.1 v0 3 8 kv0 (by decide) (by decide)]
          first | (have u39 : (I36 v0 6).toInt = ((I v0 6).toInt + (1)) := by (rw [eI36, show jpI I v0 6 ((I v0 6) + (1 : Int32)) v0 6 = ((I v0 6) + (1 : Int32)) from jpI_at] <;> exact (i_add rfl (show (1 : Int32).toInt = 1 from rfl) (by omega) (by omega)))) | skip
          try (have t40 : ((1000 : Int32) + r5).toInt = ((1000) + r5.toInt) := (i_add (show (1000 : Int32).toInt = 1000 from rfl) rfl (by omega) (by omega)))
          refine s_X3_emit w_I36 v0 ((1000 : Int32) + r5) kv0   (fun  I41 L42 w_I41 f_I41  => ?_)
          have q_I41 : FR Ws_R3 Z I Z I41 := q_I36.trans w_I.1 w_I.2.1 (f_I41.mono (by decide))
          have u43 : (I41 v0 8).toInt = (I36 v0 8).toInt := by rw [f_I41.2.2.1 v0 3 8 kv0 (by decide) (by decide)]
          have u44 : (I41 v0 6).toInt = (I36 v0 6).toInt := by rw [f_I41.2.2.1 v0 3 6 kv0 (by decide) (by decide)]
          exact hQ  I41 L42 w_I41 q_I41 
      · skip
        first | (have t45 : ¬ (r8.toInt = (0)) := (not_congr (i_eq rfl (show (0 : Int32).toInt = 0 from rfl))).mp c10) | (have t45 : ¬ (r8.toInt = (0 : Int32).toInt) := (not_congr (i_eq rfl rfl)).mp c10) | skip
        refine s_X3_readNumber w_I v0 v1 kv0 kv1   (fun  I46 L47 w_I46 f_I46  => ?_)
        have q_I46 : FR Ws_R3 Z I Z I46 := q_I.trans w_I.1 w_I.2.1 (f_I46.mono (by decide))
        have u48 : (I46 v0 8).toInt = (I v0 8).toInt := by rw [f_I46.2.2.1 v0 3 8 kv0 (by decide) (by decide)]
        exact hQ  I46 L47 w_I46 q_I46 
    · skip
      first | (have t49 : ¬ ((I v0 8).toInt = (-1)) := (not_congr (i_eq rfl (show (-1 : Int32).toInt = -1 from rfl))).mp c6) | (have t49 : ¬ ((I v0 8).toInt = (-1 : Int32).toInt) := (not_congr (i_eq rfl rfl)).mp c6) | skip
      exact hQ  I L w_I q_I 
  · skip
    first | (have t50 : r1.toInt = (-1) := (i_eq rfl (show (-1 : Int32).toInt = -1 from rfl)).mp c3) | (have t50 : r1.toInt = (-1 : Int32).toInt := (i_eq rfl rfl).mp c3) | skip
    unfold fs_X3_readThing_b22
    refine ⟨fun c51 => ?_, fun c51 => ?_⟩
    · skip
      first | (have t52 : (I v0 8).toInt = (-1) := (i_eq rfl (show (-1 : Int32).toInt = -1 from rfl)).mp c51) | (have t52 : (I v0 8).toInt = (-1 : Int32).toInt := (i_eq rfl rfl).mp c51) | skip
      refine s_X10_isDigit w_I r1    (fun r53 p54 => ?_)
      have rr53 := i_rng r53
      refine ⟨fun c55 => ?_, fun c55 => ?_⟩
      · skip
        first | (have t56 : r53.toInt = (0) := (i_eq rfl (show (0 : Int32).toInt = 0 from rfl)).mp c55) | (have t56 : r53.toInt = (0 : Int32).toInt := (i_eq rfl rfl).mp c55) | skip
        refine ⟨fun c57 => ?_, fun c57 => ?_⟩
        · skip
          first | (have t58 : (-1) < (0) := (i_lt (show (-1 : Int32).toInt = -1 from rfl) (show (0 : Int32).toInt = 0 from rfl)).mp c57) | (have t58 : (-1 : Int32).toInt < (0 : Int32).toInt := (i_lt rfl rfl).mp c57) | skip
          refine ⟨fun c59 => ?_, fun c59 => ?_⟩
          · skip
            first | (have t60 : ¬ (r1.toInt = (40)) := (not_congr (i_eq rfl (show (40 : Int32).toInt = 40 from rfl))).mp c59) | (have t60 : ¬ (r1.toInt = (40 : Int32).toInt) := (not_congr (i_eq rfl rfl)).mp c59) | skip
            unfold fs_X3_readThing_b113
            intro I61 eI61
            have w_I61 : WD Z I61 := by rw [eI61]; exact WD_putF w_I 3 8 kv0 (by decide) (by decide) trivial
            have f_I61 : FR [(3, 8)] Z I Z I61 := by rw [eI61]; exact FR_putF kv0 (by decide) List.mem_cons_self
            have q_I61 : FR Ws_R3 Z I Z I61 := q_I.trans w_I.1 w_I.2.1 (f_I61.mono (by decide))
            have u62 : (I61 v0 6).toInt = (I v0 6).toInt := by rw [f_I61.2.2.1 v0 3 6 kv0 (by decide) (by decide)]
            first | (have u63 : (I61 v0 8).toInt = (I v0 6).toInt := by (rw [eI61, show jpI I v0 8 (I v0 6) v0 8 = (I v0 6) from jpI_at] <;> exact rfl)) | skip
            exact hQ  I61 L w_I61 q_I61 
          · skip
            first | (have t64 : r1.toInt = (40) := (i_eq rfl (show (40 : Int32).toInt = 40 from rfl)).mp c59) | (have t64 : r1.toInt = (40 : Int32).toInt := (i_eq rfl rfl).mp c59) | skip
            refine ⟨fun c65 => ?_, fun c65 => ?_⟩
            · skip
              first | (have t66 : (4) ≤ v2.toInt := (i_le (show (4 : Int32).toInt = 4 from rfl) rfl).mp c65) | (have t66 : (4 : Int32).toInt ≤ v2.toInt := (i_le rfl rfl).mp c65) | skip
              unfold fs_X3_readThing_b113
              intro I67 eI67
              have w_I67 : WD Z I67 := by rw [eI67]; exact WD_putF w_I 3 8 kv0 (by decide) (by decide) trivial
              have f_I67 : FR [(3, 8)] Z I Z I67 := by rw [eI67]; exact FR_putF kv0 (by decide) List.mem_cons_self
              have q_I67 : FR Ws_R3 Z I Z I67 := q_I.trans w_I.1 w_I.2.1 (f_I67.mono (by decide))
              have u68 : (I67 v0 6).toInt = (I v0 6).toInt := by rw [f_I67.2.2.1 v0 3 6 kv0 (by decide) (by decide)]
              first | (have u69 : (I67 v0 8).toInt = (I v0 6).toInt := by (rw [eI67, show jpI I v0 8 (I v0 6) v0 8 = (I v0 6) from jpI_at] <;> exact rfl)) | skip
              exact hQ  I67 L w_I67 q_I67 
            · skip
              first | (have t70 : ¬ ((4) ≤ v2.toInt) := (not_congr (i_le (show (4 : Int32).toInt = 4 from rfl) rfl)).mp c65) | (have t70 : ¬ ((4 : Int32).toInt ≤ v2.toInt) := (not_congr (i_le rfl rfl)).mp c65) | skip
              intro I71 eI71
              try (have t72 : ((I v0 6) + (1 : Int32)).toInt = ((I v0 6).toInt + (1)) := (i_add rfl (show (1 : Int32).toInt = 1 from rfl) (by omega) (by omega)))
              have w_I71 : WD Z I71 := by rw [eI71]; exact WD_putF w_I 3 6 kv0 (by decide) (by decide) trivial
              have f_I71 : FR [(3, 6)] Z I Z I71 := by rw [eI71]; exact FR_putF kv0 (by decide) List.mem_cons_self
              have q_I71 : FR Ws_R3 Z I Z I71 := q_I.trans w_I.1 w_I.2.1 (f_I71.mono (by decide))
              have u73 : (I71 v0 8).toInt = (I v0 8).toInt := by rw [f_I71.2.2.1 v0 3 8 kv0 (by decide) (by decide)]
              first | (have u74 : (I71 v0 6).toInt = ((I v0 6).toInt + (1)) := by (rw [eI71, show jpI I v0 6 ((I v0 6) + (1 : Int32)) v0 6 = ((I v0 6) + (1 : Int32)) from jpI_at] <;> exact (i_add rfl (show (1 : Int32).toInt = 1 from rfl) (by omega) (by omega)))) | skip
              try (have t75 : (v2 + (1 : Int32)).toInt = (v2.toInt + (1)) := (i_add rfl (show (1 : Int32).toInt = 1 from rfl) (by omega) (by omega)))
              refine hF 0 (by decide) Z I71 L w_I71 v0 v1 (v2 + (1 : Int32)) kv0 kv1 (by omega) (by omega) _ (fun I76 L77 w_I76 f_I76 => ?_)
              have q_I76 : FR Ws_R3 Z I Z I76 := q_I71.trans w_I.1 w_I.2.1 (f_I76.mono (by decide))
              refine s_X3_readClosing w_I76 v0 v1 kv0 kv1   (fun  I78 L79 w_I78 f_I78  => ?_)
              have q_I78 : FR Ws_R3 Z I Z I78 := q_I76.trans w_I.1 w_I.2.1 (f_I78.mono (by decide))
              exact hQ  I78 L79 w_I78 q_I78 
        · skip
          first | (have t80 : ¬ ((-1) < (0)) := (not_congr (i_lt (show (-1 : Int32).toInt = -1 from rfl) (show (0 : Int32).toInt = 0 from rfl))).mp c57) | (have t80 : ¬ ((-1 : Int32).toInt < (0 : Int32).toInt) := (not_congr (i_lt rfl rfl)).mp c57) | skip
          intro I81 eI81
          try (have t82 : ((I v0 6) + (1 : Int32)).toInt = ((I v0 6).toInt + (1)) := (i_add rfl (show (1 : Int32).toInt = 1 from rfl) (by omega) (by omega)))
          have w_I81 : WD Z I81 := by rw [eI81]; exact WD_putF w_I 3 6 kv0 (by decide) (by decide) trivial
          have f_I81 : FR [(3, 6)] Z I Z I81 := by rw [eI81]; exact FR_putF kv0 (by decide) List.mem_cons_self
          have q_I81 : FR Ws_R3 Z I Z I81 := q_I.trans w_I.1 w_I.2.1 (f_I81.mono (by decide))
          have u83 : (I81 v0 8).toInt = (I v0 8).toInt := by rw [f_I81.2.2.1 v0 3 8 kv0 (by decide) (by decide)]
          first | (have u84 : (I81 v0 6).toInt = ((I v0 6).toInt + (1)) := by (rw [eI81, show jpI I v0 6 ((I v0 6) + (1 : Int32)) v0 6 = ((I v0 6) + (1 : Int32)) from jpI_at] <;> exact (i_add rfl (show (1 : Int32).toInt = 1 from rfl) (by omega) (by omega)))) | skip
          try (have t85 : ((1000 : Int32) + (-1 : Int32)).toInt = ((1000) + (-1)) := (i_add (show (1000 : Int32).toInt = 1000 from rfl) (show (-1 : Int32).toInt = -1 from rfl) (by omega) (by omega)))
          refine s_X3_emit w_I81 v0 ((1000 : Int32) + (-1 : Int32)) kv0   (fun  I86 L87 w_I86 f_I86  => ?_)
          have q_I86 : FR Ws_R3 Z I Z I86 := q_I81.trans w_I.1 w_I.2.1 (f_I86.mono (by decide))
          have u88 : (I86 v0 8).toInt = (I81 v0 8).toInt := by rw [f_I86.2.2.1 v0 3 8 kv0 (by decide) (by decide)]
          have u89 : (I86 v0 6).toInt = (I81 v0 6).toInt := by rw [f_I86.2.2.1 v0 3 6 kv0 (by decide) (by decide)]
          exact hQ  I86 L87 w_I86 q_I86 
      · skip
        first | (have t90 : ¬ (r53.toInt = (0)) := (not_congr (i_eq rfl (show (0 : Int32).toInt = 0 from rfl))).mp c55) | (have t90 : ¬ (r53.toInt = (0 : Int32).toInt) := (not_congr (i_eq rfl rfl)).mp c55) | skip
        refine s_X3_readNumber w_I v0 v1 kv0 kv1   (fun  I91 L92 w_I91 f_I91  => ?_)
        have q_I91 : FR Ws_R3 Z I Z I91 := q_I.trans w_I.1 w_I.2.1 (f_I91.mono (by decide))
        have u93 : (I91 v0 8).toInt = (I v0 8).toInt := by rw [f_I91.2.2.1 v0 3 8 kv0 (by decide) (by decide)]
        exact hQ  I91 L92 w_I91 q_I91 
    · skip
      first | (have t94 : ¬ ((I v0 8).toInt = (-1)) := (not_congr (i_eq rfl (show (-1 : Int32).toInt = -1 from rfl))).mp c51) | (have t94 : ¬ ((I v0 8).toInt = (-1 : Int32).toInt) := (not_congr (i_eq rfl rfl)).mp c51) | skip
      exact hQ  I L w_I q_I 
set_option maxHeartbeats 4000000 in
set_option maxRecDepth 100000 in
theorem l_X3_readSigned_L5 {d : Nat} {F : FTR3} (hF : HS3 d F) {Z : jZ} {I0 : jI} {Q : jI → jL → Prop} (w0 : WD Z I0) (v0 : Nat) (v1 : Nat) (v2 : Int32) (kv0 : jk Z v0 3) (kv1 : jk Z v1 10) (p0 : 5 * (5 - v2.toInt) - 3 ≤ (d : Int) + 1 ∧ 0 ≤ v2.toInt ∧ v2.toInt ≤ 4) (hQ : ∀  (I' : jI) (L' : jL), WD Z I' → FR Ws_R3 Z I0 Z I' → Q I' L') : ∀ (n : Nat) (v3 : Int32) (v4 : Int32) (I : jI) (L : jL), WD Z I → FR Ws_R3 Z I0 Z I →   (0 ≤ v4.toInt ∧ v4.toInt ≤ 40) → 40 - v4.toInt < (n : Int) → fs_X3_readSigned_L5 F  Z Q n v0 v1 v2 v3 v4 I L := by
  intro n
  induction n with
  | zero =>
    intro v3 v4 I L w_I q_I   li  me
    exfalso
    omega
  | succ n ih =>
    intro v3 v4 I L w_I q_I   li  me
    unfold fs_X3_readSigned_L5
    have rv3 := i_rng v3
    have rv4 := i_rng v4
    have rv2 := i_rng v2
    refine ⟨fun c1 => ?_, fun c1 => ?_⟩
    · skip
      first | (have t2 : (40) ≤ v4.toInt := (i_le (show (40 : Int32).toInt = 40 from rfl) rfl).mp c1) | (have t2 : (40 : Int32).toInt ≤ v4.toInt := (i_le rfl rfl).mp c1) | skip
      unfold fs_X3_readSigned_b50
      refine hF 4 (by decide) Z I L w_I v0 v1 v2 kv0 kv1 (by omega) (by omega) _ (fun I3 L4 w_I3 f_I3 => ?_)
      have q_I3 : FR Ws_R3 Z I0 Z I3 := q_I.trans w0.1 w0.2.1 (f_I3.mono (by decide))
      refine ⟨fun c5 => ?_, fun c5 => ?_⟩
      · skip
        first | (have t6 : v3.toInt = (0) := (i_eq rfl (show (0 : Int32).toInt = 0 from rfl)).mp c5) | (have t6 : v3.toInt = (0 : Int32).toInt := (i_eq rfl rfl).mp c5) | skip
        exact hQ  I3 L4 w_I3 q_I3 
      · skip
        first | (have t7 : ¬ (v3.toInt = (0)) := (not_congr (i_eq rfl (show (0 : Int32).toInt = 0 from rfl))).mp c5) | (have t7 : ¬ (v3.toInt = (0 : Int32).toInt) := (not_congr (i_eq rfl rfl)).mp c5) | skip
        have t8 : (2000 : Int32).toInt = 2000 := rfl
        refine s_X3_emit w_I3 v0 (2000 : Int32) kv0   (fun  I9 L10 w_I9 f_I9  => ?_)
        have q_I9 : FR Ws_R3 Z I0 Z I9 := q_I3.trans w0.1 w0.2.1 (f_I9.mono (by decide))
        exact hQ  I9 L10 w_I9 q_I9 
    · skip
      first | (have t11 : ¬ ((40) ≤ v4.toInt) := (not_congr (i_le (show (40 : Int32).toInt = 40 from rfl) rfl)).mp c1) | (have t11 : ¬ ((40 : Int32).toInt ≤ v4.toInt) := (not_congr (i_le rfl rfl)).mp c1) | skip
      have t12 : (45 : Int32).toInt = 45 := rfl
      have t13 : (45 : Int32).toInt = 45 := rfl
      refine s_X3_isAhead w_I v0 v1 (45 : Int32) (45 : Int32) kv0 kv1   (fun r14  => ?_)
      have rr14 := i_rng r14
      refine ⟨fun c15 => ?_, fun c15 => ?_⟩
      · skip
        first | (have t16 : r14.toInt = (0) := (i_eq rfl (show (0 : Int32).toInt = 0 from rfl)).mp c15) | (have t16 : r14.toInt = (0 : Int32).toInt := (i_eq rfl rfl).mp c15) | skip
        unfold fs_X3_readSigned_b50
        refine hF 4 (by decide) Z I L w_I v0 v1 v2 kv0 kv1 (by omega) (by omega) _ (fun I17 L18 w_I17 f_I17 => ?_)
        have q_I17 : FR Ws_R3 Z I0 Z I17 := q_I.trans w0.1 w0.2.1 (f_I17.mono (by decide))
        refine ⟨fun c19 => ?_, fun c19 => ?_⟩
        · skip
          first | (have t20 : v3.toInt = (0) := (i_eq rfl (show (0 : Int32).toInt = 0 from rfl)).mp c19) | (have t20 : v3.toInt = (0 : Int32).toInt := (i_eq rfl rfl).mp c19) | skip
          exact hQ  I17 L18 w_I17 q_I17 
        · skip
          first | (have t21 : ¬ (v3.toInt = (0)) := (not_congr (i_eq rfl (show (0 : Int32).toInt = 0 from rfl))).mp c19) | (have t21 : ¬ (v3.toInt = (0 : Int32).toInt) := (not_congr (i_eq rfl rfl)).mp c19) | skip
          have t22 : (2000 : Int32).toInt = 2000 := rfl
          refine s_X3_emit w_I17 v0 (2000 : Int32) kv0   (fun  I23 L24 w_I23 f_I23  => ?_)
          have q_I23 : FR Ws_R3 Z I0 Z I23 := q_I17.trans w0.1 w0.2.1 (f_I23.mono (by decide))
          exact hQ  I23 L24 w_I23 q_I23 
      · skip
        first | (have t25 : ¬ (r14.toInt = (0)) := (not_congr (i_eq rfl (show (0 : Int32).toInt = 0 from rfl))).mp c15) | (have t25 : ¬ (r14.toInt = (0 : Int32).toInt) := (not_congr (i_eq rfl rfl)).mp c15) | skip
        refine ⟨fun c26 => ?_, fun c26 => ?_⟩
        · skip
          first | (have t27 : ¬ (v3.toInt = (0)) := (not_congr (i_eq rfl (show (0 : Int32).toInt = 0 from rfl))).mp c26) | (have t27 : ¬ (v3.toInt = (0 : Int32).toInt) := (not_congr (i_eq rfl rfl)).mp c26) | skip
          unfold fs_X3_readSigned_b33
          intro I28 eI28
          try (have t29 : ((I v0 6) + (1 : Int32)).toInt = ((I v0 6).toInt + (1)) := (i_add rfl (show (1 : Int32).toInt = 1 from rfl) (by omega) (by omega)))
          have w_I28 : WD Z I28 := by rw [eI28]; exact WD_putF w_I 3 6 kv0 (by decide) (by decide) trivial
          have f_I28 : FR [(3, 6)] Z I Z I28 := by rw [eI28]; exact FR_putF kv0 (by decide) List.mem_cons_self
          have q_I28 : FR Ws_R3 Z I0 Z I28 := q_I.trans w0.1 w0.2.1 (f_I28.mono (by decide))
          first | (have u30 : (I28 v0 6).toInt = ((I v0 6).toInt + (1)) := by (rw [eI28, show jpI I v0 6 ((I v0 6) + (1 : Int32)) v0 6 = ((I v0 6) + (1 : Int32)) from jpI_at] <;> exact (i_add rfl (show (1 : Int32).toInt = 1 from rfl) (by omega) (by omega)))) | skip
          intro x31 ex31
          have rx31 := i_rng x31
          first | (have tx31 : x31.toInt = v4.toInt + (1) := by (rw [ex31]; exact (i_add rfl (show (1 : Int32).toInt = 1 from rfl) (by omega) (by omega)))) | skip
          have t32 : (0 : Int32).toInt = 0 := rfl
          exact ih (0 : Int32) x31 I28 L w_I28 q_I28   (by omega)  (by omega)
        · skip
          first | (have t33 : v3.toInt = (0) := (i_eq rfl (show (0 : Int32).toInt = 0 from rfl)).mp c26) | (have t33 : v3.toInt = (0 : Int32).toInt := (i_eq rfl rfl).mp c26) | skip
          unfold fs_X3_readSigned_b33
          intro I34 eI34
          try (have t35 : ((I v0 6) + (1 : Int32)).toInt = ((I v0 6).toInt + (1)) := (i_add rfl (show (1 : Int32).toInt = 1 from rfl) (by omega) (by omega)))
          have w_I34 : WD Z I34 := by rw [eI34]; exact WD_putF w_I 3 6 kv0 (by decide) (by decide) trivial
          have f_I34 : FR [(3, 6)] Z I Z I34 := by rw [eI34]; exact FR_putF kv0 (by decide) List.mem_cons_self
          have q_I34 : FR Ws_R3 Z I0 Z I34 := q_I.trans w0.1 w0.2.1 (f_I34.mono (by decide))
          first | (have u36 : (I34 v0 6).toInt = ((I v0 6).toInt + (1)) := by (rw [eI34, show jpI I v0 6 ((I v0 6) + (1 : Int32)) v0 6 = ((I v0 6) + (1 : Int32)) from jpI_at] <;> exact (i_add rfl (show (1 : Int32).toInt = 1 from rfl) (by omega) (by omega)))) | skip
          intro x37 ex37
          have rx37 := i_rng x37
          first | (have tx37 : x37.toInt = v4.toInt + (1) := by (rw [ex37]; exact (i_add rfl (show (1 : Int32).toInt = 1 from rfl) (by omega) (by omega)))) | skip
          have t38 : (1 : Int32).toInt = 1 := rfl
          exact ih (1 : Int32) x37 I34 L w_I34 q_I34   (by omega)  (by omega)
set_option maxHeartbeats 4000000 in
set_option maxRecDepth 100000 in
theorem s_X3_readSigned {d : Nat} {F : FTR3} (hF : HS3 d F) {Z : jZ} {I : jI} {L : jL} (w_I : WD Z I) (v0 : Nat) (v1 : Nat) (v2 : Int32) (kv0 : jk Z v0 3) (kv1 : jk Z v1 10) (p0 : 5 * (5 - v2.toInt) - 3 ≤ (d : Int) + 1 ∧ 0 ≤ v2.toInt ∧ v2.toInt ≤ 4) {Q : jI → jL → Prop} (hQ : ∀  (I' : jI) (L' : jL), WD Z I' → FR Ws_R3 Z I Z I' → Q I' L') : fs_X3_readSigned F v0 v1 v2 Z I L Q := by
  unfold fs_X3_readSigned
  have q_I : FR Ws_R3 Z I Z I := FR.rf
  have rv2 := i_rng v2
  have t39 : (0 : Int32).toInt = 0 := rfl
  have t40 : (0 : Int32).toInt = 0 := rfl
  exact ⟨(40 - (0 : Int32).toInt).toNat + 1, l_X3_readSigned_L5 hF w_I v0 v1 v2 kv0 kv1 p0   hQ   _ (0 : Int32) (0 : Int32) I L w_I q_I   (by omega)  (by omega)⟩
set_option maxHeartbeats 4000000 in
set_option maxRecDepth 100000 in
theorem l_X3_readProduct_L8 {d : Nat} {F : FTR3} (hF : HS3 d F) {Z : jZ} {I0 : jI} {Q : jI → jL → Prop} (w0 : WD Z I0) (v0 : Nat) (v1 : Nat) (v2 : Int32) (kv0 : jk Z v0 3) (kv1 : jk Z v1 10) (p0 : 5 * (5 - v2.toInt) - 2 ≤ (d : Int) + 1 ∧ 0 ≤ v2.toInt ∧ v2.toInt ≤ 4) (hQ : ∀  (I' : jI) (L' : jL), WD Z I' → FR Ws_R3 Z I0 Z I' → Q I' L') : ∀ (n : Nat) (v3 : Int32) (I : jI) (L : jL), WD Z I → FR Ws_R3 Z I0 Z I →   (0 ≤ v3.toInt ∧ v3.toInt ≤ 40) → 40 - v3.toInt < (n : Int) → fs_X3_readProduct_L8 F  Z Q n v0 v1 v2 v3 I L := by
  intro n
  induction n with
  | zero =>
    intro v3 I L w_I q_I   li  me
    exfalso
    omega
  | succ n ih =>
    intro v3 I L w_I q_I   li  me
    unfold fs_X3_readProduct_L8
    have rv3 := i_rng v3
    have rv2 := i_rng v2
    refine ⟨fun c1 => ?_, fun c1 => ?_⟩
    · skip
      first | (have t2 : (40) ≤ v3.toInt := (i_le (show (40 : Int32).toInt = 40 from rfl) rfl).mp c1) | (have t2 : (40 : Int32).toInt ≤ v3.toInt := (i_le rfl rfl).mp c1) | skip
      exact hQ  I L w_I q_I 
    · skip
      first | (have t3 : ¬ ((40) ≤ v3.toInt) := (not_congr (i_le (show (40 : Int32).toInt = 40 from rfl) rfl)).mp c1) | (have t3 : ¬ ((40 : Int32).toInt ≤ v3.toInt) := (not_congr (i_le rfl rfl)).mp c1) | skip
      have t4 : (42 : Int32).toInt = 42 := rfl
      have t5 : (47 : Int32).toInt = 47 := rfl
      refine s_X3_isAhead w_I v0 v1 (42 : Int32) (47 : Int32) kv0 kv1   (fun r6  => ?_)
      have rr6 := i_rng r6
      refine ⟨fun c7 => ?_, fun c7 => ?_⟩
      · skip
        first | (have t8 : r6.toInt = (0) := (i_eq rfl (show (0 : Int32).toInt = 0 from rfl)).mp c7) | (have t8 : r6.toInt = (0 : Int32).toInt := (i_eq rfl rfl).mp c7) | skip
        exact hQ  I L w_I q_I 
      · skip
        first | (have t9 : ¬ (r6.toInt = (0)) := (not_congr (i_eq rfl (show (0 : Int32).toInt = 0 from rfl))).mp c7) | (have t9 : ¬ (r6.toInt = (0 : Int32).toInt) := (not_congr (i_eq rfl rfl)).mp c7) | skip
        refine s_X3_look w_I v0 v1 kv0 kv1   (fun r10 p11 => ?_)
        have rr10 := i_rng r10
        intro I12 eI12
        try (have t13 : ((I v0 6) + (1 : Int32)).toInt = ((I v0 6).toInt + (1)) := (i_add rfl (show (1 : Int32).toInt = 1 from rfl) (by omega) (by omega)))
        have w_I12 : WD Z I12 := by rw [eI12]; exact WD_putF w_I 3 6 kv0 (by decide) (by decide) trivial
        have f_I12 : FR [(3, 6)] Z I Z I12 := by rw [eI12]; exact FR_putF kv0 (by decide) List.mem_cons_self
        have q_I12 : FR Ws_R3 Z I0 Z I12 := q_I.trans w0.1 w0.2.1 (f_I12.mono (by decide))
        first | (have u14 : (I12 v0 6).toInt = ((I v0 6).toInt + (1)) := by (rw [eI12, show jpI I v0 6 ((I v0 6) + (1 : Int32)) v0 6 = ((I v0 6) + (1 : Int32)) from jpI_at] <;> exact (i_add rfl (show (1 : Int32).toInt = 1 from rfl) (by omega) (by omega)))) | skip
        refine hF 3 (by decide) Z I12 L w_I12 v0 v1 v2 kv0 kv1 (by omega) (by omega) _ (fun I15 L16 w_I15 f_I15 => ?_)
        have q_I15 : FR Ws_R3 Z I0 Z I15 := q_I12.trans w0.1 w0.2.1 (f_I15.mono (by decide))
        try (have t17 : ((2000 : Int32) + r10).toInt = ((2000) + r10.toInt) := (i_add (show (2000 : Int32).toInt = 2000 from rfl) rfl (by omega) (by omega)))
        refine s_X3_emit w_I15 v0 ((2000 : Int32) + r10) kv0   (fun  I18 L19 w_I18 f_I18  => ?_)
        have q_I18 : FR Ws_R3 Z I0 Z I18 := q_I15.trans w0.1 w0.2.1 (f_I18.mono (by decide))
        intro x20 ex20
        have rx20 := i_rng x20
        first | (have tx20 : x20.toInt = v3.toInt + (1) := by (rw [ex20]; exact (i_add rfl (show (1 : Int32).toInt = 1 from rfl) (by omega) (by omega)))) | skip
        exact ih x20 I18 L19 w_I18 q_I18   (by omega)  (by omega)
set_option maxHeartbeats 4000000 in
set_option maxRecDepth 100000 in
theorem s_X3_readProduct {d : Nat} {F : FTR3} (hF : HS3 d F) {Z : jZ} {I : jI} {L : jL} (w_I : WD Z I) (v0 : Nat) (v1 : Nat) (v2 : Int32) (kv0 : jk Z v0 3) (kv1 : jk Z v1 10) (p0 : 5 * (5 - v2.toInt) - 2 ≤ (d : Int) + 1 ∧ 0 ≤ v2.toInt ∧ v2.toInt ≤ 4) {Q : jI → jL → Prop} (hQ : ∀  (I' : jI) (L' : jL), WD Z I' → FR Ws_R3 Z I Z I' → Q I' L') : fs_X3_readProduct F v0 v1 v2 Z I L Q := by
  unfold fs_X3_readProduct
  have q_I : FR Ws_R3 Z I Z I := FR.rf
  have rv2 := i_rng v2
  refine hF 3 (by decide) Z I L w_I v0 v1 v2 kv0 kv1 (by omega) (by omega) _ (fun I21 L22 w_I21 f_I21 => ?_)
  have q_I21 : FR Ws_R3 Z I Z I21 := q_I.trans w_I.1 w_I.2.1 (f_I21.mono (by decide))
  have t23 : (0 : Int32).toInt = 0 := rfl
  exact ⟨(40 - (0 : Int32).toInt).toNat + 1, l_X3_readProduct_L8 hF w_I v0 v1 v2 kv0 kv1 p0   hQ   _ (0 : Int32) I21 L22 w_I21 q_I21   (by omega)  (by omega)⟩
set_option maxHeartbeats 4000000 in
set_option maxRecDepth 100000 in
theorem l_X3_readSum_L8 {d : Nat} {F : FTR3} (hF : HS3 d F) {Z : jZ} {I0 : jI} {Q : jI → jL → Prop} (w0 : WD Z I0) (v0 : Nat) (v1 : Nat) (v2 : Int32) (kv0 : jk Z v0 3) (kv1 : jk Z v1 10) (p0 : 5 * (5 - v2.toInt) - 1 ≤ (d : Int) + 1 ∧ 0 ≤ v2.toInt ∧ v2.toInt ≤ 4) (hQ : ∀  (I' : jI) (L' : jL), WD Z I' → FR Ws_R3 Z I0 Z I' → Q I' L') : ∀ (n : Nat) (v3 : Int32) (I : jI) (L : jL), WD Z I → FR Ws_R3 Z I0 Z I →   (0 ≤ v3.toInt ∧ v3.toInt ≤ 40) → 40 - v3.toInt < (n : Int) → fs_X3_readSum_L8 F  Z Q n v0 v1 v2 v3 I L := by
  intro n
  induction n with
  | zero =>
    intro v3 I L w_I q_I   li  me
    exfalso
    omega
  | succ n ih =>
    intro v3 I L w_I q_I   li  me
    unfold fs_X3_readSum_L8
    have rv3 := i_rng v3
    have rv2 := i_rng v2
    refine ⟨fun c1 => ?_, fun c1 => ?_⟩
    · skip
      first | (have t2 : (40) ≤ v3.toInt := (i_le (show (40 : Int32).toInt = 40 from rfl) rfl).mp c1) | (have t2 : (40 : Int32).toInt ≤ v3.toInt := (i_le rfl rfl).mp c1) | skip
      exact hQ  I L w_I q_I 
    · skip
      first | (have t3 : ¬ ((40) ≤ v3.toInt) := (not_congr (i_le (show (40 : Int32).toInt = 40 from rfl) rfl)).mp c1) | (have t3 : ¬ ((40 : Int32).toInt ≤ v3.toInt) := (not_congr (i_le rfl rfl)).mp c1) | skip
      have t4 : (43 : Int32).toInt = 43 := rfl
      have t5 : (45 : Int32).toInt = 45 := rfl
      refine s_X3_isAhead w_I v0 v1 (43 : Int32) (45 : Int32) kv0 kv1   (fun r6  => ?_)
      have rr6 := i_rng r6
      refine ⟨fun c7 => ?_, fun c7 => ?_⟩
      · skip
        first | (have t8 : r6.toInt = (0) := (i_eq rfl (show (0 : Int32).toInt = 0 from rfl)).mp c7) | (have t8 : r6.toInt = (0 : Int32).toInt := (i_eq rfl rfl).mp c7) | skip
        exact hQ  I L w_I q_I 
      · skip
        first | (have t9 : ¬ (r6.toInt = (0)) := (not_congr (i_eq rfl (show (0 : Int32).toInt = 0 from rfl))).mp c7) | (have t9 : ¬ (r6.toInt = (0 : Int32).toInt) := (not_congr (i_eq rfl rfl)).mp c7) | skip
        refine s_X3_look w_I v0 v1 kv0 kv1   (fun r10 p11 => ?_)
        have rr10 := i_rng r10
        intro I12 eI12
        try (have t13 : ((I v0 6) + (1 : Int32)).toInt = ((I v0 6).toInt + (1)) := (i_add rfl (show (1 : Int32).toInt = 1 from rfl) (by omega) (by omega)))
        have w_I12 : WD Z I12 := by rw [eI12]; exact WD_putF w_I 3 6 kv0 (by decide) (by decide) trivial
        have f_I12 : FR [(3, 6)] Z I Z I12 := by rw [eI12]; exact FR_putF kv0 (by decide) List.mem_cons_self
        have q_I12 : FR Ws_R3 Z I0 Z I12 := q_I.trans w0.1 w0.2.1 (f_I12.mono (by decide))
        first | (have u14 : (I12 v0 6).toInt = ((I v0 6).toInt + (1)) := by (rw [eI12, show jpI I v0 6 ((I v0 6) + (1 : Int32)) v0 6 = ((I v0 6) + (1 : Int32)) from jpI_at] <;> exact (i_add rfl (show (1 : Int32).toInt = 1 from rfl) (by omega) (by omega)))) | skip
        refine hF 2 (by decide) Z I12 L w_I12 v0 v1 v2 kv0 kv1 (by omega) (by omega) _ (fun I15 L16 w_I15 f_I15 => ?_)
        have q_I15 : FR Ws_R3 Z I0 Z I15 := q_I12.trans w0.1 w0.2.1 (f_I15.mono (by decide))
        try (have t17 : ((2000 : Int32) + r10).toInt = ((2000) + r10.toInt) := (i_add (show (2000 : Int32).toInt = 2000 from rfl) rfl (by omega) (by omega)))
        refine s_X3_emit w_I15 v0 ((2000 : Int32) + r10) kv0   (fun  I18 L19 w_I18 f_I18  => ?_)
        have q_I18 : FR Ws_R3 Z I0 Z I18 := q_I15.trans w0.1 w0.2.1 (f_I18.mono (by decide))
        intro x20 ex20
        have rx20 := i_rng x20
        first | (have tx20 : x20.toInt = v3.toInt + (1) := by (rw [ex20]; exact (i_add rfl (show (1 : Int32).toInt = 1 from rfl) (by omega) (by omega)))) | skip
        exact ih x20 I18 L19 w_I18 q_I18   (by omega)  (by omega)
set_option maxHeartbeats 4000000 in
set_option maxRecDepth 100000 in
theorem s_X3_readSum {d : Nat} {F : FTR3} (hF : HS3 d F) {Z : jZ} {I : jI} {L : jL} (w_I : WD Z I) (v0 : Nat) (v1 : Nat) (v2 : Int32) (kv0 : jk Z v0 3) (kv1 : jk Z v1 10) (p0 : 5 * (5 - v2.toInt) - 1 ≤ (d : Int) + 1 ∧ 0 ≤ v2.toInt ∧ v2.toInt ≤ 4) {Q : jI → jL → Prop} (hQ : ∀  (I' : jI) (L' : jL), WD Z I' → FR Ws_R3 Z I Z I' → Q I' L') : fs_X3_readSum F v0 v1 v2 Z I L Q := by
  unfold fs_X3_readSum
  have q_I : FR Ws_R3 Z I Z I := FR.rf
  have rv2 := i_rng v2
  refine hF 2 (by decide) Z I L w_I v0 v1 v2 kv0 kv1 (by omega) (by omega) _ (fun I21 L22 w_I21 f_I21 => ?_)
  have q_I21 : FR Ws_R3 Z I Z I21 := q_I.trans w_I.1 w_I.2.1 (f_I21.mono (by decide))
  have t23 : (0 : Int32).toInt = 0 := rfl
  exact ⟨(40 - (0 : Int32).toInt).toNat + 1, l_X3_readSum_L8 hF w_I v0 v1 v2 kv0 kv1 p0   hQ   _ (0 : Int32) I21 L22 w_I21 q_I21   (by omega)  (by omega)⟩
set_option maxHeartbeats 4000000 in
set_option maxRecDepth 100000 in
theorem s_X3_readExpression {d : Nat} {F : FTR3} (hF : HS3 d F) {Z : jZ} {I : jI} {L : jL} (w_I : WD Z I) (v0 : Nat) (v1 : Nat) (v2 : Int32) (kv0 : jk Z v0 3) (kv1 : jk Z v1 10) (p0 : 5 * (5 - v2.toInt) - 0 ≤ (d : Int) + 1 ∧ 0 ≤ v2.toInt ∧ v2.toInt ≤ 4) {Q : jI → jL → Prop} (hQ : ∀  (I' : jI) (L' : jL), WD Z I' → FR Ws_R3 Z I Z I' → Q I' L') : fs_X3_readExpression F v0 v1 v2 Z I L Q := by
  unfold fs_X3_readExpression
  have q_I : FR Ws_R3 Z I Z I := FR.rf
  have rv2 := i_rng v2
  refine hF 1 (by decide) Z I L w_I v0 v1 v2 kv0 kv1 (by omega) (by omega) _ (fun I1 L2 w_I1 f_I1 => ?_)
  have q_I1 : FR Ws_R3 Z I Z I1 := q_I.trans w_I.1 w_I.2.1 (f_I1.mono (by decide))
  have t3 : (60 : Int32).toInt = 60 := rfl
  have t4 : (62 : Int32).toInt = 62 := rfl
  refine s_X3_isAhead w_I1 v0 v1 (60 : Int32) (62 : Int32) kv0 kv1   (fun r5  => ?_)
  have rr5 := i_rng r5
  refine ⟨fun c6 => ?_, fun c6 => ?_⟩
  · skip
    first | (have t7 : ¬ (r5.toInt = (0)) := (not_congr (i_eq rfl (show (0 : Int32).toInt = 0 from rfl))).mp c6) | (have t7 : ¬ (r5.toInt = (0 : Int32).toInt) := (not_congr (i_eq rfl rfl)).mp c6) | skip
    unfold fs_X3_readExpression_b30
    refine s_X3_look w_I1 v0 v1 kv0 kv1   (fun r8 p9 => ?_)
    have rr8 := i_rng r8
    intro I10 eI10
    try (have t11 : ((I1 v0 6) + (1 : Int32)).toInt = ((I1 v0 6).toInt + (1)) := (i_add rfl (show (1 : Int32).toInt = 1 from rfl) (by omega) (by omega)))
    have w_I10 : WD Z I10 := by rw [eI10]; exact WD_putF w_I1 3 6 kv0 (by decide) (by decide) trivial
    have f_I10 : FR [(3, 6)] Z I1 Z I10 := by rw [eI10]; exact FR_putF kv0 (by decide) List.mem_cons_self
    have q_I10 : FR Ws_R3 Z I Z I10 := q_I1.trans w_I.1 w_I.2.1 (f_I10.mono (by decide))
    first | (have u12 : (I10 v0 6).toInt = ((I1 v0 6).toInt + (1)) := by (rw [eI10, show jpI I1 v0 6 ((I1 v0 6) + (1 : Int32)) v0 6 = ((I1 v0 6) + (1 : Int32)) from jpI_at] <;> exact (i_add rfl (show (1 : Int32).toInt = 1 from rfl) (by omega) (by omega)))) | skip
    refine hF 1 (by decide) Z I10 L2 w_I10 v0 v1 v2 kv0 kv1 (by omega) (by omega) _ (fun I13 L14 w_I13 f_I13 => ?_)
    have q_I13 : FR Ws_R3 Z I Z I13 := q_I10.trans w_I.1 w_I.2.1 (f_I13.mono (by decide))
    try (have t15 : ((2000 : Int32) + r8).toInt = ((2000) + r8.toInt) := (i_add (show (2000 : Int32).toInt = 2000 from rfl) rfl (by omega) (by omega)))
    refine s_X3_emit w_I13 v0 ((2000 : Int32) + r8) kv0   (fun  I16 L17 w_I16 f_I16  => ?_)
    have q_I16 : FR Ws_R3 Z I Z I16 := q_I13.trans w_I.1 w_I.2.1 (f_I16.mono (by decide))
    exact hQ  I16 L17 w_I16 q_I16 
  · skip
    first | (have t18 : r5.toInt = (0) := (i_eq rfl (show (0 : Int32).toInt = 0 from rfl)).mp c6) | (have t18 : r5.toInt = (0 : Int32).toInt := (i_eq rfl rfl).mp c6) | skip
    have t19 : (61 : Int32).toInt = 61 := rfl
    have t20 : (61 : Int32).toInt = 61 := rfl
    refine s_X3_isAhead w_I1 v0 v1 (61 : Int32) (61 : Int32) kv0 kv1   (fun r21  => ?_)
    have rr21 := i_rng r21
    refine ⟨fun c22 => ?_, fun c22 => ?_⟩
    · skip
      first | (have t23 : r21.toInt = (0) := (i_eq rfl (show (0 : Int32).toInt = 0 from rfl)).mp c22) | (have t23 : r21.toInt = (0 : Int32).toInt := (i_eq rfl rfl).mp c22) | skip
      exact hQ  I1 L2 w_I1 q_I1 
    · skip
      first | (have t24 : ¬ (r21.toInt = (0)) := (not_congr (i_eq rfl (show (0 : Int32).toInt = 0 from rfl))).mp c22) | (have t24 : ¬ (r21.toInt = (0 : Int32).toInt) := (not_congr (i_eq rfl rfl)).mp c22) | skip
      unfold fs_X3_readExpression_b30
      refine s_X3_look w_I1 v0 v1 kv0 kv1   (fun r25 p26 => ?_)
      have rr25 := i_rng r25
      intro I27 eI27
      try (have t28 : ((I1 v0 6) + (1 : Int32)).toInt = ((I1 v0 6).toInt + (1)) := (i_add rfl (show (1 : Int32).toInt = 1 from rfl) (by omega) (by omega)))
      have w_I27 : WD Z I27 := by rw [eI27]; exact WD_putF w_I1 3 6 kv0 (by decide) (by decide) trivial
      have f_I27 : FR [(3, 6)] Z I1 Z I27 := by rw [eI27]; exact FR_putF kv0 (by decide) List.mem_cons_self
      have q_I27 : FR Ws_R3 Z I Z I27 := q_I1.trans w_I.1 w_I.2.1 (f_I27.mono (by decide))
      first | (have u29 : (I27 v0 6).toInt = ((I1 v0 6).toInt + (1)) := by (rw [eI27, show jpI I1 v0 6 ((I1 v0 6) + (1 : Int32)) v0 6 = ((I1 v0 6) + (1 : Int32)) from jpI_at] <;> exact (i_add rfl (show (1 : Int32).toInt = 1 from rfl) (by omega) (by omega)))) | skip
      refine hF 1 (by decide) Z I27 L2 w_I27 v0 v1 v2 kv0 kv1 (by omega) (by omega) _ (fun I30 L31 w_I30 f_I30 => ?_)
      have q_I30 : FR Ws_R3 Z I Z I30 := q_I27.trans w_I.1 w_I.2.1 (f_I30.mono (by decide))
      try (have t32 : ((2000 : Int32) + r25).toInt = ((2000) + r25.toInt) := (i_add (show (2000 : Int32).toInt = 2000 from rfl) rfl (by omega) (by omega)))
      refine s_X3_emit w_I30 v0 ((2000 : Int32) + r25) kv0   (fun  I33 L34 w_I33 f_I33  => ?_)
      have q_I33 : FR Ws_R3 Z I Z I33 := q_I30.trans w_I.1 w_I.2.1 (f_I33.mono (by decide))
      exact hQ  I33 L34 w_I33 q_I33 
theorem hs3 : ∀ d, HS3 d (fR3 d) := by
  intro d
  induction d with
  | zero =>
    intro w hw Z I L wI v0 v1 v2 k0 k1 h1 h2 Q hQ
    exfalso; omega
  | succ d ih =>
    intro w hw Z I L wI v0 v1 v2 k0 k1 h1 h2 Q hQ
    match w, hw with
    | 0, _ => exact s_X3_readExpression ih wI v0 v1 v2 k0 k1 (by omega) (fun I' L' a b => hQ I' L' a b)
    | 1, _ => exact s_X3_readSum ih wI v0 v1 v2 k0 k1 (by omega) (fun I' L' a b => hQ I' L' a b)
    | 2, _ => exact s_X3_readProduct ih wI v0 v1 v2 k0 k1 (by omega) (fun I' L' a b => hQ I' L' a b)
    | 3, _ => exact s_X3_readSigned ih wI v0 v1 v2 k0 k1 (by omega) (fun I' L' a b => hQ I' L' a b)
    | 4, _ => exact s_X3_readThing ih wI v0 v1 v2 k0 k1 (by omega) (fun I' L' a b => hQ I' L' a b)
def Ws_X3_read : List (Nat × Nat) := [(3, 0), (3, 1), (3, 3), (3, 4), (3, 5), (3, 6), (3, 7), (3, 8)]
set_option maxHeartbeats 4000000 in
set_option maxRecDepth 100000 in
theorem l_X3_read_L122 {Z : jZ} {I0 : jI} {Q : Int32 → jI → jL → Prop} (w0 : WD Z I0) (v0 : Nat) (v1 : Nat) (kv0 : jk Z v0 3) (kv1 : jk Z v1 10) (hQ : ∀ (r : Int32) (I' : jI) (L' : jL), WD Z I' → FR Ws_X3_read Z I0 Z I' → Q r I' L') : ∀ (n : Nat) (v2 : Int32) (I : jI) (L : jL), WD Z I → FR Ws_X3_read Z I0 Z I →   (0 ≤ v2.toInt ∧ v2.toInt ≤ 40) → 40 - v2.toInt < (n : Int) → fs_X3_read_L122  Z Q n v0 v2 I L := by
  intro n
  induction n with
  | zero =>
    intro v2 I L w_I q_I   li  me
    exfalso
    omega
  | succ n ih =>
    intro v2 I L w_I q_I   li  me
    unfold fs_X3_read_L122
    have rv2 := i_rng v2
    have t2 : 0 ≤ (I v0 3).toInt ∧ (I v0 3).toInt ≤ 40 := w_I.fld 3 3 kv0 (by decide)
    refine ⟨fun c3 => ?_, fun c3 => ?_⟩
    · skip
      first | (have t4 : (I v0 3).toInt ≤ v2.toInt := (i_le rfl rfl).mp c3) | (have t4 : (I v0 3).toInt ≤ v2.toInt := (i_le rfl rfl).mp c3) | skip
      have t5 : (0 : Int32).toInt = 0 := rfl
      exact hQ (0 : Int32) I L w_I q_I 
    · skip
      first | (have t6 : ¬ ((I v0 3).toInt ≤ v2.toInt) := (not_congr (i_le rfl rfl)).mp c3) | (have t6 : ¬ ((I v0 3).toInt ≤ v2.toInt) := (not_congr (i_le rfl rfl)).mp c3) | skip
      intro b7 eb7
      obtain ⟨x8, ex8, kb7, lb7⟩ := sh_f w_I.1 kv0 (j := 0) (k := 14) (m := 40) rfl
      cases eb7.symm.trans ex8
      have o9 : vp_in v2 40 := vi_of rfl (by omega) (by omega)
      refine ⟨o9, ?_⟩
      refine ⟨fun c10 => ?_, fun c10 => ?_⟩
      · skip
        first | (have t11 : (I b7 v2.toNatClampNeg).toInt < (1000) := (i_lt rfl (show (1000 : Int32).toInt = 1000 from rfl)).mp c10) | (have t11 : (I b7 v2.toNatClampNeg).toInt < (1000 : Int32).toInt := (i_lt rfl rfl).mp c10) | skip
        unfold fs_X3_read_b174
        unfold fs_X3_read_b175
        intro I12 eI12
        have w_I12 : WD Z I12 := by rw [eI12]; exact WD_putF w_I 3 4 kv0 (by decide) (by decide) trivial
        have f_I12 : FR [(3, 4)] Z I Z I12 := by rw [eI12]; exact FR_putF kv0 (by decide) List.mem_cons_self
        have q_I12 : FR Ws_X3_read Z I0 Z I12 := q_I.trans w0.1 w0.2.1 (f_I12.mono (by decide))
        have u13 : (I12 v0 3).toInt = (I v0 3).toInt := by rw [f_I12.2.2.1 v0 3 3 kv0 (by decide) (by decide)]
        first | (have u14 : (I12 v0 4).toInt = ((I v0 4) ||| (0 : Int32)).toInt := by (rw [eI12, show jpI I v0 4 ((I v0 4) ||| (0 : Int32)) v0 4 = ((I v0 4) ||| (0 : Int32)) from jpI_at] <;> exact rfl)) | skip
        intro x15 ex15
        have rx15 := i_rng x15
        first | (have tx15 : x15.toInt = v2.toInt + (1) := by (rw [ex15]; exact (i_add rfl (show (1 : Int32).toInt = 1 from rfl) (by omega) (by omega)))) | skip
        exact ih x15 I12 L w_I12 q_I12   (by omega)  (by omega)
      · skip
        first | (have t16 : ¬ ((I b7 v2.toNatClampNeg).toInt < (1000)) := (not_congr (i_lt rfl (show (1000 : Int32).toInt = 1000 from rfl))).mp c10) | (have t16 : ¬ ((I b7 v2.toNatClampNeg).toInt < (1000 : Int32).toInt) := (not_congr (i_lt rfl rfl)).mp c10) | skip
        intro b17 eb17
        obtain rfl : b7 = b17 := Option.some.inj (eb7.symm.trans eb17)
        have o18 : vp_in v2 40 := vi_of rfl (by omega) (by omega)
        refine ⟨o18, ?_⟩
        refine ⟨fun c19 => ?_, fun c19 => ?_⟩
        · skip
          first | (have t20 : (2000) ≤ (I b7 v2.toNatClampNeg).toInt := (i_le (show (2000 : Int32).toInt = 2000 from rfl) rfl).mp c19) | (have t20 : (2000 : Int32).toInt ≤ (I b7 v2.toNatClampNeg).toInt := (i_le rfl rfl).mp c19) | skip
          unfold fs_X3_read_b174
          unfold fs_X3_read_b175
          intro I21 eI21
          have w_I21 : WD Z I21 := by rw [eI21]; exact WD_putF w_I 3 4 kv0 (by decide) (by decide) trivial
          have f_I21 : FR [(3, 4)] Z I Z I21 := by rw [eI21]; exact FR_putF kv0 (by decide) List.mem_cons_self
          have q_I21 : FR Ws_X3_read Z I0 Z I21 := q_I.trans w0.1 w0.2.1 (f_I21.mono (by decide))
          have u22 : (I21 v0 3).toInt = (I v0 3).toInt := by rw [f_I21.2.2.1 v0 3 3 kv0 (by decide) (by decide)]
          first | (have u23 : (I21 v0 4).toInt = ((I v0 4) ||| (0 : Int32)).toInt := by (rw [eI21, show jpI I v0 4 ((I v0 4) ||| (0 : Int32)) v0 4 = ((I v0 4) ||| (0 : Int32)) from jpI_at] <;> exact rfl)) | skip
          intro x24 ex24
          have rx24 := i_rng x24
          first | (have tx24 : x24.toInt = v2.toInt + (1) := by (rw [ex24]; exact (i_add rfl (show (1 : Int32).toInt = 1 from rfl) (by omega) (by omega)))) | skip
          exact ih x24 I21 L w_I21 q_I21   (by omega)  (by omega)
        · skip
          first | (have t25 : ¬ ((2000) ≤ (I b7 v2.toNatClampNeg).toInt) := (not_congr (i_le (show (2000 : Int32).toInt = 2000 from rfl) rfl)).mp c19) | (have t25 : ¬ ((2000 : Int32).toInt ≤ (I b7 v2.toNatClampNeg).toInt) := (not_congr (i_le rfl rfl)).mp c19) | skip
          intro b26 eb26
          obtain rfl : b7 = b26 := Option.some.inj (eb7.symm.trans eb26)
          have o27 : vp_in v2 40 := vi_of rfl (by omega) (by omega)
          refine ⟨o27, ?_⟩
          unfold fs_X3_read_b175
          intro I28 eI28
          have w_I28 : WD Z I28 := by rw [eI28]; exact WD_putF w_I 3 4 kv0 (by decide) (by decide) trivial
          have f_I28 : FR [(3, 4)] Z I Z I28 := by rw [eI28]; exact FR_putF kv0 (by decide) List.mem_cons_self
          have q_I28 : FR Ws_X3_read Z I0 Z I28 := q_I.trans w0.1 w0.2.1 (f_I28.mono (by decide))
          have u29 : (I28 v0 3).toInt = (I v0 3).toInt := by rw [f_I28.2.2.1 v0 3 3 kv0 (by decide) (by decide)]
          first | (have u30 : (I28 v0 4).toInt = ((I v0 4) ||| ((1 : Int32) <<< (((I b7 v2.toNatClampNeg) - (1000 : Int32)) &&& 31))).toInt := by (rw [eI28, show jpI I v0 4 ((I v0 4) ||| ((1 : Int32) <<< (((I b7 v2.toNatClampNeg) - (1000 : Int32)) &&& 31))) v0 4 = ((I v0 4) ||| ((1 : Int32) <<< (((I b7 v2.toNatClampNeg) - (1000 : Int32)) &&& 31))) from jpI_at] <;> exact rfl)) | skip
          intro x31 ex31
          have rx31 := i_rng x31
          first | (have tx31 : x31.toInt = v2.toInt + (1) := by (rw [ex31]; exact (i_add rfl (show (1 : Int32).toInt = 1 from rfl) (by omega) (by omega)))) | skip
          exact ih x31 I28 L w_I28 q_I28   (by omega)  (by omega)
set_option maxHeartbeats 4000000 in
set_option maxRecDepth 100000 in
theorem s_X3_read {Z : jZ} {I : jI} {L : jL} (w_I : WD Z I) (v0 : Nat) (v1 : Nat) (kv0 : jk Z v0 3) (kv1 : jk Z v1 10) {Q : Int32 → jI → jL → Prop} (hQ : ∀ (r : Int32) (I' : jI) (L' : jL), WD Z I' → FR Ws_X3_read Z I Z I' → Q r I' L') : fs_X3_read v0 v1 Z I L Q := by
  unfold fs_X3_read
  have q_I : FR Ws_X3_read Z I Z I := FR.rf
  intro I32 eI32
  have t33 : (0 : Int32).toInt = 0 := rfl
  have w_I32 : WD Z I32 := by rw [eI32]; exact WD_putF w_I 3 5 kv0 (by decide) (by decide) (by constructor <;> omega)
  have f_I32 : FR [(3, 5)] Z I Z I32 := by rw [eI32]; exact FR_putF kv0 (by decide) List.mem_cons_self
  have q_I32 : FR Ws_X3_read Z I Z I32 := q_I.trans w_I.1 w_I.2.1 (f_I32.mono (by decide))
  first | (have u34 : (I32 v0 5).toInt = (0) := by (rw [eI32, show jpI I v0 5 (0 : Int32) v0 5 = (0 : Int32) from jpI_at] <;> exact (show (0 : Int32).toInt = 0 from rfl))) | skip
  intro I35 eI35
  have t36 : (0 : Int32).toInt = 0 := rfl
  have w_I35 : WD Z I35 := by rw [eI35]; exact WD_putF w_I32 3 6 kv0 (by decide) (by decide) trivial
  have f_I35 : FR [(3, 6)] Z I32 Z I35 := by rw [eI35]; exact FR_putF kv0 (by decide) List.mem_cons_self
  have q_I35 : FR Ws_X3_read Z I Z I35 := q_I32.trans w_I.1 w_I.2.1 (f_I35.mono (by decide))
  have u37 : (I35 v0 5).toInt = (I32 v0 5).toInt := by rw [f_I35.2.2.1 v0 3 5 kv0 (by decide) (by decide)]
  first | (have u38 : (I35 v0 6).toInt = (0) := by (rw [eI35, show jpI I32 v0 6 (0 : Int32) v0 6 = (0 : Int32) from jpI_at] <;> exact (show (0 : Int32).toInt = 0 from rfl))) | skip
  intro I39 eI39
  have t40 : (-1 : Int32).toInt = -1 := rfl
  have w_I39 : WD Z I39 := by rw [eI39]; exact WD_putF w_I35 3 8 kv0 (by decide) (by decide) trivial
  have f_I39 : FR [(3, 8)] Z I35 Z I39 := by rw [eI39]; exact FR_putF kv0 (by decide) List.mem_cons_self
  have q_I39 : FR Ws_X3_read Z I Z I39 := q_I35.trans w_I.1 w_I.2.1 (f_I39.mono (by decide))
  have u41 : (I39 v0 5).toInt = (I35 v0 5).toInt := by rw [f_I39.2.2.1 v0 3 5 kv0 (by decide) (by decide)]
  have u42 : (I39 v0 6).toInt = (I35 v0 6).toInt := by rw [f_I39.2.2.1 v0 3 6 kv0 (by decide) (by decide)]
  first | (have u43 : (I39 v0 8).toInt = (-1) := by (rw [eI39, show jpI I35 v0 8 (-1 : Int32) v0 8 = (-1 : Int32) from jpI_at] <;> exact (show (-1 : Int32).toInt = -1 from rfl))) | skip
  have t45 : 0 ≤ (I39 v1 1).toInt ∧ (I39 v1 1).toInt ≤ 80 := w_I39.fld 10 1 kv1 (by decide)
  intro I46 eI46
  try (have t47 : (if (40 : Int32) < (I39 v1 1) then (40 : Int32) else (I39 v1 1)).toInt = (min (I39 v1 1).toInt (40)) := (i_min rfl (show (40 : Int32).toInt = 40 from rfl)))
  have w_I46 : WD Z I46 := by rw [eI46]; exact WD_putF w_I39 3 7 kv0 (by decide) (by decide) trivial
  have f_I46 : FR [(3, 7)] Z I39 Z I46 := by rw [eI46]; exact FR_putF kv0 (by decide) List.mem_cons_self
  have q_I46 : FR Ws_X3_read Z I Z I46 := q_I39.trans w_I.1 w_I.2.1 (f_I46.mono (by decide))
  have u48 : (I46 v0 5).toInt = (I39 v0 5).toInt := by rw [f_I46.2.2.1 v0 3 5 kv0 (by decide) (by decide)]
  have u49 : (I46 v0 6).toInt = (I39 v0 6).toInt := by rw [f_I46.2.2.1 v0 3 6 kv0 (by decide) (by decide)]
  have u50 : (I46 v0 8).toInt = (I39 v0 8).toInt := by rw [f_I46.2.2.1 v0 3 8 kv0 (by decide) (by decide)]
  have u51 : (I46 v1 1).toInt = (I39 v1 1).toInt := by rw [f_I46.2.2.1 v1 10 1 kv1 (by decide) (by decide)]
  first | (have u52 : (I46 v0 7).toInt = (min (I39 v1 1).toInt (40)) := by (rw [eI46, show jpI I39 v0 7 (if (40 : Int32) < (I39 v1 1) then (40 : Int32) else (I39 v1 1)) v0 7 = (if (40 : Int32) < (I39 v1 1) then (40 : Int32) else (I39 v1 1)) from jpI_at] <;> exact (i_min rfl (show (40 : Int32).toInt = 40 from rfl)))) | skip
  have t54 : 0 ≤ (I46 v1 1).toInt ∧ (I46 v1 1).toInt ≤ 80 := w_I46.fld 10 1 kv1 (by decide)
  refine ⟨fun c55 => ?_, fun c55 => ?_⟩
  · skip
    first | (have t56 : (I46 v1 1).toInt ≤ (0) := (i_le rfl (show (0 : Int32).toInt = 0 from rfl)).mp c55) | (have t56 : (I46 v1 1).toInt ≤ (0 : Int32).toInt := (i_le rfl rfl).mp c55) | skip
    unfold fs_X3_read_b77
    refine ⟨fun c57 => ?_, fun c57 => ?_⟩
    · skip
      first | (have t58 : (I46 v0 8).toInt = (-1) := (i_eq rfl (show (-1 : Int32).toInt = -1 from rfl)).mp c57) | (have t58 : (I46 v0 8).toInt = (-1 : Int32).toInt := (i_eq rfl rfl).mp c57) | skip
      intro b59 eb59
      obtain ⟨x60, ex60, kb59, lb59⟩ := sh_f w_I46.1 kv0 (j := 1) (k := 14) (m := 40) rfl
      cases eb59.symm.trans ex60
      intro b61 eb61
      obtain ⟨x62, ex62, kb61, lb61⟩ := sh_f w_I46.1 kv0 (j := 0) (k := 14) (m := 40) rfl
      cases eb61.symm.trans ex62
      have t63 : (0 : Int32).toInt = 0 := rfl
      have t64 : (0 : Int32).toInt = 0 := rfl
      have t65 : (40 : Int32).toInt = 40 := rfl
      have t66 := i_nat (x := (0 : Int32)) (show (0 : Int32).toInt = 0 from rfl) (by omega)
      have t67 := i_nat (x := (0 : Int32)) (show (0 : Int32).toInt = 0 from rfl) (by omega)
      have t68 := i_nat (x := (40 : Int32)) (show (40 : Int32).toInt = 40 from rfl) (by omega)
      refine ⟨⟨(not_congr (i_lt (show (0 : Int32).toInt = 0 from rfl) (show (0 : Int32).toInt = 0 from rfl))).mpr (by omega), (not_congr (i_lt (show (0 : Int32).toInt = 0 from rfl) (show (0 : Int32).toInt = 0 from rfl))).mpr (by omega), (not_congr (i_lt (show (40 : Int32).toInt = 40 from rfl) (show (0 : Int32).toInt = 0 from rfl))).mpr (by omega), by omega, by omega⟩, ?_⟩
      intro I69 eI69
      have w_I69 : WD Z I69 := by rw [eI69]; exact WD_cpy w_I46 3 0 kv0 eb61 kb61 rfl rfl (by decide) (fun _ _ _ => trivial)
      have f_I69 : FR [(3, 0)] Z I46 Z I69 := by rw [eI69]; exact FR_upA w_I46.2.1 kv0 eb61 kb61 rfl rfl List.mem_cons_self
      have q_I69 : FR Ws_X3_read Z I Z I69 := q_I46.trans w_I.1 w_I.2.1 (f_I69.mono (by decide))
      have u70 : (I69 v0 5).toInt = (I46 v0 5).toInt := by rw [f_I69.2.2.1 v0 3 5 kv0 (by decide) (by decide)]
      have u71 : (I69 v0 6).toInt = (I46 v0 6).toInt := by rw [f_I69.2.2.1 v0 3 6 kv0 (by decide) (by decide)]
      have u72 : (I69 v0 8).toInt = (I46 v0 8).toInt := by rw [f_I69.2.2.1 v0 3 8 kv0 (by decide) (by decide)]
      have u73 : (I69 v1 1).toInt = (I46 v1 1).toInt := by rw [f_I69.2.2.1 v1 10 1 kv1 (by decide) (by decide)]
      have u74 : (I69 v0 7).toInt = (I46 v0 7).toInt := by rw [f_I69.2.2.1 v0 3 7 kv0 (by decide) (by decide)]
      have t76 : 0 ≤ (I69 v0 5).toInt ∧ (I69 v0 5).toInt ≤ 40 := w_I69.fld 3 5 kv0 (by decide)
      intro I77 eI77
      have w_I77 : WD Z I77 := by rw [eI77]; exact WD_putF w_I69 3 3 kv0 (by decide) (by decide) (by constructor <;> omega)
      have f_I77 : FR [(3, 3)] Z I69 Z I77 := by rw [eI77]; exact FR_putF kv0 (by decide) List.mem_cons_self
      have q_I77 : FR Ws_X3_read Z I Z I77 := q_I69.trans w_I.1 w_I.2.1 (f_I77.mono (by decide))
      have u78 : (I77 v0 5).toInt = (I69 v0 5).toInt := by rw [f_I77.2.2.1 v0 3 5 kv0 (by decide) (by decide)]
      have u79 : (I77 v0 6).toInt = (I69 v0 6).toInt := by rw [f_I77.2.2.1 v0 3 6 kv0 (by decide) (by decide)]
      have u80 : (I77 v0 8).toInt = (I69 v0 8).toInt := by rw [f_I77.2.2.1 v0 3 8 kv0 (by decide) (by decide)]
      have u81 : (I77 v1 1).toInt = (I69 v1 1).toInt := by rw [f_I77.2.2.1 v1 10 1 kv1 (by decide) (by decide)]
      have u82 : (I77 v0 7).toInt = (I69 v0 7).toInt := by rw [f_I77.2.2.1 v0 3 7 kv0 (by decide) (by decide)]
      first | (have u83 : (I77 v0 3).toInt = (I69 v0 5).toInt := by (rw [eI77, show jpI I69 v0 3 (I69 v0 5) v0 3 = (I69 v0 5) from jpI_at] <;> exact rfl)) | skip
      intro I84 eI84
      have t85 : (0 : Int32).toInt = 0 := rfl
      have w_I84 : WD Z I84 := by rw [eI84]; exact WD_putF w_I77 3 4 kv0 (by decide) (by decide) trivial
      have f_I84 : FR [(3, 4)] Z I77 Z I84 := by rw [eI84]; exact FR_putF kv0 (by decide) List.mem_cons_self
      have q_I84 : FR Ws_X3_read Z I Z I84 := q_I77.trans w_I.1 w_I.2.1 (f_I84.mono (by decide))
      have u86 : (I84 v0 5).toInt = (I77 v0 5).toInt := by rw [f_I84.2.2.1 v0 3 5 kv0 (by decide) (by decide)]
      have u87 : (I84 v0 6).toInt = (I77 v0 6).toInt := by rw [f_I84.2.2.1 v0 3 6 kv0 (by decide) (by decide)]
      have u88 : (I84 v0 8).toInt = (I77 v0 8).toInt := by rw [f_I84.2.2.1 v0 3 8 kv0 (by decide) (by decide)]
      have u89 : (I84 v1 1).toInt = (I77 v1 1).toInt := by rw [f_I84.2.2.1 v1 10 1 kv1 (by decide) (by decide)]
      have u90 : (I84 v0 7).toInt = (I77 v0 7).toInt := by rw [f_I84.2.2.1 v0 3 7 kv0 (by decide) (by decide)]
      have u91 : (I84 v0 3).toInt = (I77 v0 3).toInt := by rw [f_I84.2.2.1 v0 3 3 kv0 (by decide) (by decide)]
      first | (have u92 : (I84 v0 4).toInt = (0) := by (rw [eI84, show jpI I77 v0 4 (0 : Int32) v0 4 = (0 : Int32) from jpI_at] <;> exact (show (0 : Int32).toInt = 0 from rfl))) | skip
      have t93 : (0 : Int32).toInt = 0 := rfl
      exact ⟨(40 - (0 : Int32).toInt).toNat + 1, l_X3_read_L122 w_I v0 v1 kv0 kv1   hQ   _ (0 : Int32) I84 L w_I84 q_I84   (by omega)  (by omega)⟩
    · skip
      first | (have t94 : ¬ ((I46 v0 8).toInt = (-1)) := (not_congr (i_eq rfl (show (-1 : Int32).toInt = -1 from rfl))).mp c57) | (have t94 : ¬ ((I46 v0 8).toInt = (-1 : Int32).toInt) := (not_congr (i_eq rfl rfl)).mp c57) | skip
      try (have t95 : ((-1 : Int32) - (I46 v0 8)).toInt = ((-1) - (I46 v0 8).toInt) := (i_sub (show (-1 : Int32).toInt = -1 from rfl) rfl (by omega) (by omega)))
      exact hQ ((-1 : Int32) - (I46 v0 8)) I46 L w_I46 q_I46 
  · skip
    first | (have t96 : ¬ ((I46 v1 1).toInt ≤ (0)) := (not_congr (i_le rfl (show (0 : Int32).toInt = 0 from rfl))).mp c55) | (have t96 : ¬ ((I46 v1 1).toInt ≤ (0 : Int32).toInt) := (not_congr (i_le rfl rfl)).mp c55) | skip
    have t97 : (0 : Int32).toInt = 0 := rfl
    refine (hs3 30) 0 (by decide) Z I46 L w_I46 v0 v1 (0 : Int32) kv0 kv1 (by omega) (by omega) _ (fun I98 L99 w_I98 f_I98 => ?_)
    have q_I98 : FR Ws_X3_read Z I Z I98 := q_I46.trans w_I.1 w_I.2.1 (f_I98.mono (by decide))
    have u100 : (I98 v1 1).toInt = (I46 v1 1).toInt := by rw [f_I98.2.2.1 v1 10 1 kv1 (by decide) (by decide)]
    have u101 : (I98 v0 7).toInt = (I46 v0 7).toInt := by rw [f_I98.2.2.1 v0 3 7 kv0 (by decide) (by decide)]
    refine ⟨fun c102 => ?_, fun c102 => ?_⟩
    · skip
      first | (have t103 : ¬ ((I98 v0 8).toInt = (-1)) := (not_congr (i_eq rfl (show (-1 : Int32).toInt = -1 from rfl))).mp c102) | (have t103 : ¬ ((I98 v0 8).toInt = (-1 : Int32).toInt) := (not_congr (i_eq rfl rfl)).mp c102) | skip
      unfold fs_X3_read_b77
      refine ⟨fun c104 => ?_, fun c104 => ?_⟩
      · skip
        first | (have t105 : (I98 v0 8).toInt = (-1) := (i_eq rfl (show (-1 : Int32).toInt = -1 from rfl)).mp c104) | (have t105 : (I98 v0 8).toInt = (-1 : Int32).toInt := (i_eq rfl rfl).mp c104) | skip
        intro b106 eb106
        obtain ⟨x107, ex107, kb106, lb106⟩ := sh_f w_I98.1 kv0 (j := 1) (k := 14) (m := 40) rfl
        cases eb106.symm.trans ex107
        intro b108 eb108
        obtain ⟨x109, ex109, kb108, lb108⟩ := sh_f w_I98.1 kv0 (j := 0) (k := 14) (m := 40) rfl
        cases eb108.symm.trans ex109
        have t110 : (0 : Int32).toInt = 0 := rfl
        have t111 : (0 : Int32).toInt = 0 := rfl
        have t112 : (40 : Int32).toInt = 40 := rfl
        have t113 := i_nat (x := (0 : Int32)) (show (0 : Int32).toInt = 0 from rfl) (by omega)
        have t114 := i_nat (x := (0 : Int32)) (show (0 : Int32).toInt = 0 from rfl) (by omega)
        have t115 := i_nat (x := (40 : Int32)) (show (40 : Int32).toInt = 40 from rfl) (by omega)
        refine ⟨⟨(not_congr (i_lt (show (0 : Int32).toInt = 0 from rfl) (show (0 : Int32).toInt = 0 from rfl))).mpr (by omega), (not_congr (i_lt (show (0 : Int32).toInt = 0 from rfl) (show (0 : Int32).toInt = 0 from rfl))).mpr (by omega), (not_congr (i_lt (show (40 : Int32).toInt = 40 from rfl) (show (0 : Int32).toInt = 0 from rfl))).mpr (by omega), by omega, by omega⟩, ?_⟩
        intro I116 eI116
        have w_I116 : WD Z I116 := by rw [eI116]; exact WD_cpy w_I98 3 0 kv0 eb108 kb108 rfl rfl (by decide) (fun _ _ _ => trivial)
        have f_I116 : FR [(3, 0)] Z I98 Z I116 := by rw [eI116]; exact FR_upA w_I98.2.1 kv0 eb108 kb108 rfl rfl List.mem_cons_self
        have q_I116 : FR Ws_X3_read Z I Z I116 := q_I98.trans w_I.1 w_I.2.1 (f_I116.mono (by decide))
        have u117 : (I116 v1 1).toInt = (I98 v1 1).toInt := by rw [f_I116.2.2.1 v1 10 1 kv1 (by decide) (by decide)]
        have u118 : (I116 v0 7).toInt = (I98 v0 7).toInt := by rw [f_I116.2.2.1 v0 3 7 kv0 (by decide) (by decide)]
        have u119 : (I116 v0 8).toInt = (I98 v0 8).toInt := by rw [f_I116.2.2.1 v0 3 8 kv0 (by decide) (by decide)]
        have t121 : 0 ≤ (I116 v0 5).toInt ∧ (I116 v0 5).toInt ≤ 40 := w_I116.fld 3 5 kv0 (by decide)
        intro I122 eI122
        have w_I122 : WD Z I122 := by rw [eI122]; exact WD_putF w_I116 3 3 kv0 (by decide) (by decide) (by constructor <;> omega)
        have f_I122 : FR [(3, 3)] Z I116 Z I122 := by rw [eI122]; exact FR_putF kv0 (by decide) List.mem_cons_self
        have q_I122 : FR Ws_X3_read Z I Z I122 := q_I116.trans w_I.1 w_I.2.1 (f_I122.mono (by decide))
        have u123 : (I122 v1 1).toInt = (I116 v1 1).toInt := by rw [f_I122.2.2.1 v1 10 1 kv1 (by decide) (by decide)]
        have u124 : (I122 v0 7).toInt = (I116 v0 7).toInt := by rw [f_I122.2.2.1 v0 3 7 kv0 (by decide) (by decide)]
        have u125 : (I122 v0 8).toInt = (I116 v0 8).toInt := by rw [f_I122.2.2.1 v0 3 8 kv0 (by decide) (by decide)]
        have u126 : (I122 v0 5).toInt = (I116 v0 5).toInt := by rw [f_I122.2.2.1 v0 3 5 kv0 (by decide) (by decide)]
        first | (have u127 : (I122 v0 3).toInt = (I116 v0 5).toInt := by (rw [eI122, show jpI I116 v0 3 (I116 v0 5) v0 3 = (I116 v0 5) from jpI_at] <;> exact rfl)) | skip
        intro I128 eI128
        have t129 : (0 : Int32).toInt = 0 := rfl
        have w_I128 : WD Z I128 := by rw [eI128]; exact WD_putF w_I122 3 4 kv0 (by decide) (by decide) trivial
        have f_I128 : FR [(3, 4)] Z I122 Z I128 := by rw [eI128]; exact FR_putF kv0 (by decide) List.mem_cons_self
        have q_I128 : FR Ws_X3_read Z I Z I128 := q_I122.trans w_I.1 w_I.2.1 (f_I128.mono (by decide))
        have u130 : (I128 v1 1).toInt = (I122 v1 1).toInt := by rw [f_I128.2.2.1 v1 10 1 kv1 (by decide) (by decide)]
        have u131 : (I128 v0 7).toInt = (I122 v0 7).toInt := by rw [f_I128.2.2.1 v0 3 7 kv0 (by decide) (by decide)]
        have u132 : (I128 v0 8).toInt = (I122 v0 8).toInt := by rw [f_I128.2.2.1 v0 3 8 kv0 (by decide) (by decide)]
        have u133 : (I128 v0 5).toInt = (I122 v0 5).toInt := by rw [f_I128.2.2.1 v0 3 5 kv0 (by decide) (by decide)]
        have u134 : (I128 v0 3).toInt = (I122 v0 3).toInt := by rw [f_I128.2.2.1 v0 3 3 kv0 (by decide) (by decide)]
        first | (have u135 : (I128 v0 4).toInt = (0) := by (rw [eI128, show jpI I122 v0 4 (0 : Int32) v0 4 = (0 : Int32) from jpI_at] <;> exact (show (0 : Int32).toInt = 0 from rfl))) | skip
        have t136 : (0 : Int32).toInt = 0 := rfl
        exact ⟨(40 - (0 : Int32).toInt).toNat + 1, l_X3_read_L122 w_I v0 v1 kv0 kv1   hQ   _ (0 : Int32) I128 L99 w_I128 q_I128   (by omega)  (by omega)⟩
      · skip
        first | (have t137 : ¬ ((I98 v0 8).toInt = (-1)) := (not_congr (i_eq rfl (show (-1 : Int32).toInt = -1 from rfl))).mp c104) | (have t137 : ¬ ((I98 v0 8).toInt = (-1 : Int32).toInt) := (not_congr (i_eq rfl rfl)).mp c104) | skip
        try (have t138 : ((-1 : Int32) - (I98 v0 8)).toInt = ((-1) - (I98 v0 8).toInt) := (i_sub (show (-1 : Int32).toInt = -1 from rfl) rfl (by omega) (by omega)))
        exact hQ ((-1 : Int32) - (I98 v0 8)) I98 L99 w_I98 q_I98 
    · skip
      first | (have t139 : (I98 v0 8).toInt = (-1) := (i_eq rfl (show (-1 : Int32).toInt = -1 from rfl)).mp c102) | (have t139 : (I98 v0 8).toInt = (-1 : Int32).toInt := (i_eq rfl rfl).mp c102) | skip
      refine ⟨fun c140 => ?_, fun c140 => ?_⟩
      · skip
        first | (have t141 : (I98 v0 6).toInt < (I98 v0 7).toInt := (i_lt rfl rfl).mp c140) | (have t141 : (I98 v0 6).toInt < (I98 v0 7).toInt := (i_lt rfl rfl).mp c140) | skip
        unfold fs_X3_read_b69
        intro I142 eI142
        have w_I142 : WD Z I142 := by rw [eI142]; exact WD_putF w_I98 3 8 kv0 (by decide) (by decide) trivial
        have f_I142 : FR [(3, 8)] Z I98 Z I142 := by rw [eI142]; exact FR_putF kv0 (by decide) List.mem_cons_self
        have q_I142 : FR Ws_X3_read Z I Z I142 := q_I98.trans w_I.1 w_I.2.1 (f_I142.mono (by decide))
        have u143 : (I142 v1 1).toInt = (I98 v1 1).toInt := by rw [f_I142.2.2.1 v1 10 1 kv1 (by decide) (by decide)]
        have u144 : (I142 v0 7).toInt = (I98 v0 7).toInt := by rw [f_I142.2.2.1 v0 3 7 kv0 (by decide) (by decide)]
        have u145 : (I142 v0 6).toInt = (I98 v0 6).toInt := by rw [f_I142.2.2.1 v0 3 6 kv0 (by decide) (by decide)]
        first | (have u146 : (I142 v0 8).toInt = (I98 v0 6).toInt := by (rw [eI142, show jpI I98 v0 8 (I98 v0 6) v0 8 = (I98 v0 6) from jpI_at] <;> exact rfl)) | skip
        unfold fs_X3_read_b77
        refine ⟨fun c147 => ?_, fun c147 => ?_⟩
        · skip
          first | (have t148 : (I142 v0 8).toInt = (-1) := (i_eq rfl (show (-1 : Int32).toInt = -1 from rfl)).mp c147) | (have t148 : (I142 v0 8).toInt = (-1 : Int32).toInt := (i_eq rfl rfl).mp c147) | skip
          intro b149 eb149
          obtain ⟨x150, ex150, kb149, lb149⟩ := sh_f w_I142.1 kv0 (j := 1) (k := 14) (m := 40) rfl
          cases eb149.symm.trans ex150
          intro b151 eb151
          obtain ⟨x152, ex152, kb151, lb151⟩ := sh_f w_I142.1 kv0 (j := 0) (k := 14) (m := 40) rfl
          cases eb151.symm.trans ex152
          have t153 : (0 : Int32).toInt = 0 := rfl
          have t154 : (0 : Int32).toInt = 0 := rfl
          have t155 : (40 : Int32).toInt = 40 := rfl
          have t156 := i_nat (x := (0 : Int32)) (show (0 : Int32).toInt = 0 from rfl) (by omega)
          have t157 := i_nat (x := (0 : Int32)) (show (0 : Int32).toInt = 0 from rfl) (by omega)
          have t158 := i_nat (x := (40 : Int32)) (show (40 : Int32).toInt = 40 from rfl) (by omega)
          refine ⟨⟨(not_congr (i_lt (show (0 : Int32).toInt = 0 from rfl) (show (0 : Int32).toInt = 0 from rfl))).mpr (by omega), (not_congr (i_lt (show (0 : Int32).toInt = 0 from rfl) (show (0 : Int32).toInt = 0 from rfl))).mpr (by omega), (not_congr (i_lt (show (40 : Int32).toInt = 40 from rfl) (show (0 : Int32).toInt = 0 from rfl))).mpr (by omega), by omega, by omega⟩, ?_⟩
          intro I159 eI159
          have w_I159 : WD Z I159 := by rw [eI159]; exact WD_cpy w_I142 3 0 kv0 eb151 kb151 rfl rfl (by decide) (fun _ _ _ => trivial)
          have f_I159 : FR [(3, 0)] Z I142 Z I159 := by rw [eI159]; exact FR_upA w_I142.2.1 kv0 eb151 kb151 rfl rfl List.mem_cons_self
          have q_I159 : FR Ws_X3_read Z I Z I159 := q_I142.trans w_I.1 w_I.2.1 (f_I159.mono (by decide))
          have u160 : (I159 v1 1).toInt = (I142 v1 1).toInt := by rw [f_I159.2.2.1 v1 10 1 kv1 (by decide) (by decide)]
          have u161 : (I159 v0 7).toInt = (I142 v0 7).toInt := by rw [f_I159.2.2.1 v0 3 7 kv0 (by decide) (by decide)]
          have u162 : (I159 v0 6).toInt = (I142 v0 6).toInt := by rw [f_I159.2.2.1 v0 3 6 kv0 (by decide) (by decide)]
          have u163 : (I159 v0 8).toInt = (I142 v0 8).toInt := by rw [f_I159.2.2.1 v0 3 8 kv0 (by decide) (by decide)]
          have t165 : 0 ≤ (I159 v0 5).toInt ∧ (I159 v0 5).toInt ≤ 40 := w_I159.fld 3 5 kv0 (by decide)
          intro I166 eI166
          have w_I166 : WD Z I166 := by rw [eI166]; exact WD_putF w_I159 3 3 kv0 (by decide) (by decide) (by constructor <;> omega)
          have f_I166 : FR [(3, 3)] Z I159 Z I166 := by rw [eI166]; exact FR_putF kv0 (by decide) List.mem_cons_self
          have q_I166 : FR Ws_X3_read Z I Z I166 := q_I159.trans w_I.1 w_I.2.1 (f_I166.mono (by decide))
          have u167 : (I166 v1 1).toInt = (I159 v1 1).toInt := by rw [f_I166.2.2.1 v1 10 1 kv1 (by decide) (by decide)]
          have u168 : (I166 v0 7).toInt = (I159 v0 7).toInt := by rw [f_I166.2.2.1 v0 3 7 kv0 (by decide) (by decide)]
          have u169 : (I166 v0 6).toInt = (I159 v0 6).toInt := by rw [f_I166.2.2.1 v0 3 6 kv0 (by decide) (by decide)]
          have u170 : (I166 v0 8).toInt = (I159 v0 8).toInt := by rw [f_I166.2.2.1 v0 3 8 kv0 (by decide) (by decide)]
          have u171 : (I166 v0 5).toInt = (I159 v0 5).toInt := by rw [f_I166.2.2.1 v0 3 5 kv0 (by decide) (by decide)]
          first | (have u172 : (I166 v0 3).toInt = (I159 v0 5).toInt := by (rw [eI166, show jpI I159 v0 3 (I159 v0 5) v0 3 = (I159 v0 5) from jpI_at] <;> exact rfl)) | skip
          intro I173 eI173
          have t174 : (0 : Int32).toInt = 0 := rfl
          have w_I173 : WD Z I173 := by rw [eI173]; exact WD_putF w_I166 3 4 kv0 (by decide) (by decide) trivial
          have f_I173 : FR [(3, 4)] Z I166 Z I173 := by rw [eI173]; exact FR_putF kv0 (by decide) List.mem_cons_self
          have q_I173 : FR Ws_X3_read Z I Z I173 := q_I166.trans w_I.1 w_I.2.1 (f_I173.mono (by decide))
          have u175 : (I173 v1 1).toInt = (I166 v1 1).toInt := by rw [f_I173.2.2.1 v1 10 1 kv1 (by decide) (by decide)]
          have u176 : (I173 v0 7).toInt = (I166 v0 7).toInt := by rw [f_I173.2.2.1 v0 3 7 kv0 (by decide) (by decide)]
          have u177 : (I173 v0 6).toInt = (I166 v0 6).toInt := by rw [f_I173.2.2.1 v0 3 6 kv0 (by decide) (by decide)]
          have u178 : (I173 v0 8).toInt = (I166 v0 8).toInt := by rw [f_I173.2.2.1 v0 3 8 kv0 (by decide) (by decide)]
          have u179 : (I173 v0 5).toInt = (I166 v0 5).toInt := by rw [f_I173.2.2.1 v0 3 5 kv0 (by decide) (by decide)]
          have u180 : (I173 v0 3).toInt = (I166 v0 3).toInt := by rw [f_I173.2.2.1 v0 3 3 kv0 (by decide) (by decide)]
          first | (have u181 : (I173 v0 4).toInt = (0) := by (rw [eI173, show jpI I166 v0 4 (0 : Int32) v0 4 = (0 : Int32) from jpI_at] <;> exact (show (0 : Int32).toInt = 0 from rfl))) | skip
          have t182 : (0 : Int32).toInt = 0 := rfl
          exact ⟨(40 - (0 : Int32).toInt).toNat + 1, l_X3_read_L122 w_I v0 v1 kv0 kv1   hQ   _ (0 : Int32) I173 L99 w_I173 q_I173   (by omega)  (by omega)⟩
        · skip
          first | (have t183 : ¬ ((I142 v0 8).toInt = (-1)) := (not_congr (i_eq rfl (show (-1 : Int32).toInt = -1 from rfl))).mp c147) | (have t183 : ¬ ((I142 v0 8).toInt = (-1 : Int32).toInt) := (not_congr (i_eq rfl rfl)).mp c147) | skip
          try (have t184 : ((-1 : Int32) - (I142 v0 8)).toInt = ((-1) - (I142 v0 8).toInt) := (i_sub (show (-1 : Int32).toInt = -1 from rfl) rfl (by omega) (by omega)))
          exact hQ ((-1 : Int32) - (I142 v0 8)) I142 L99 w_I142 q_I142 
      · skip
        first | (have t185 : ¬ ((I98 v0 6).toInt < (I98 v0 7).toInt) := (not_congr (i_lt rfl rfl)).mp c140) | (have t185 : ¬ ((I98 v0 6).toInt < (I98 v0 7).toInt) := (not_congr (i_lt rfl rfl)).mp c140) | skip
        have t187 : 0 ≤ (I98 v1 1).toInt ∧ (I98 v1 1).toInt ≤ 80 := w_I98.fld 10 1 kv1 (by decide)
        refine ⟨fun c188 => ?_, fun c188 => ?_⟩
        · skip
          first | (have t189 : (I98 v1 1).toInt ≤ (40) := (i_le rfl (show (40 : Int32).toInt = 40 from rfl)).mp c188) | (have t189 : (I98 v1 1).toInt ≤ (40 : Int32).toInt := (i_le rfl rfl).mp c188) | skip
          unfold fs_X3_read_b77
          refine ⟨fun c190 => ?_, fun c190 => ?_⟩
          · skip
            first | (have t191 : (I98 v0 8).toInt = (-1) := (i_eq rfl (show (-1 : Int32).toInt = -1 from rfl)).mp c190) | (have t191 : (I98 v0 8).toInt = (-1 : Int32).toInt := (i_eq rfl rfl).mp c190) | skip
            intro b192 eb192
            obtain ⟨x193, ex193, kb192, lb192⟩ := sh_f w_I98.1 kv0 (j := 1) (k := 14) (m := 40) rfl
            cases eb192.symm.trans ex193
            intro b194 eb194
            obtain ⟨x195, ex195, kb194, lb194⟩ := sh_f w_I98.1 kv0 (j := 0) (k := 14) (m := 40) rfl
            cases eb194.symm.trans ex195
            have t196 : (0 : Int32).toInt = 0 := rfl
            have t197 : (0 : Int32).toInt = 0 := rfl
            have t198 : (40 : Int32).toInt = 40 := rfl
            have t199 := i_nat (x := (0 : Int32)) (show (0 : Int32).toInt = 0 from rfl) (by omega)
            have t200 := i_nat (x := (0 : Int32)) (show (0 : Int32).toInt = 0 from rfl) (by omega)
            have t201 := i_nat (x := (40 : Int32)) (show (40 : Int32).toInt = 40 from rfl) (by omega)
            refine ⟨⟨(not_congr (i_lt (show (0 : Int32).toInt = 0 from rfl) (show (0 : Int32).toInt = 0 from rfl))).mpr (by omega), (not_congr (i_lt (show (0 : Int32).toInt = 0 from rfl) (show (0 : Int32).toInt = 0 from rfl))).mpr (by omega), (not_congr (i_lt (show (40 : Int32).toInt = 40 from rfl) (show (0 : Int32).toInt = 0 from rfl))).mpr (by omega), by omega, by omega⟩, ?_⟩
            intro I202 eI202
            have w_I202 : WD Z I202 := by rw [eI202]; exact WD_cpy w_I98 3 0 kv0 eb194 kb194 rfl rfl (by decide) (fun _ _ _ => trivial)
            have f_I202 : FR [(3, 0)] Z I98 Z I202 := by rw [eI202]; exact FR_upA w_I98.2.1 kv0 eb194 kb194 rfl rfl List.mem_cons_self
            have q_I202 : FR Ws_X3_read Z I Z I202 := q_I98.trans w_I.1 w_I.2.1 (f_I202.mono (by decide))
            have u203 : (I202 v1 1).toInt = (I98 v1 1).toInt := by rw [f_I202.2.2.1 v1 10 1 kv1 (by decide) (by decide)]
            have u204 : (I202 v0 7).toInt = (I98 v0 7).toInt := by rw [f_I202.2.2.1 v0 3 7 kv0 (by decide) (by decide)]
            have u205 : (I202 v0 8).toInt = (I98 v0 8).toInt := by rw [f_I202.2.2.1 v0 3 8 kv0 (by decide) (by decide)]
            have u206 : (I202 v0 6).toInt = (I98 v0 6).toInt := by rw [f_I202.2.2.1 v0 3 6 kv0 (by decide) (by decide)]
            have t208 : 0 ≤ (I202 v0 5).toInt ∧ (I202 v0 5).toInt ≤ 40 := w_I202.fld 3 5 kv0 (by decide)
            intro I209 eI209
            have w_I209 : WD Z I209 := by rw [eI209]; exact WD_putF w_I202 3 3 kv0 (by decide) (by decide) (by constructor <;> omega)
            have f_I209 : FR [(3, 3)] Z I202 Z I209 := by rw [eI209]; exact FR_putF kv0 (by decide) List.mem_cons_self
            have q_I209 : FR Ws_X3_read Z I Z I209 := q_I202.trans w_I.1 w_I.2.1 (f_I209.mono (by decide))
            have u210 : (I209 v1 1).toInt = (I202 v1 1).toInt := by rw [f_I209.2.2.1 v1 10 1 kv1 (by decide) (by decide)]
            have u211 : (I209 v0 7).toInt = (I202 v0 7).toInt := by rw [f_I209.2.2.1 v0 3 7 kv0 (by decide) (by decide)]
            have u212 : (I209 v0 8).toInt = (I202 v0 8).toInt := by rw [f_I209.2.2.1 v0 3 8 kv0 (by decide) (by decide)]
            have u213 : (I209 v0 6).toInt = (I202 v0 6).toInt := by rw [f_I209.2.2.1 v0 3 6 kv0 (by decide) (by decide)]
            have u214 : (I209 v0 5).toInt = (I202 v0 5).toInt := by rw [f_I209.2.2.1 v0 3 5 kv0 (by decide) (by decide)]
            first | (have u215 : (I209 v0 3).toInt = (I202 v0 5).toInt := by (rw [eI209, show jpI I202 v0 3 (I202 v0 5) v0 3 = (I202 v0 5) from jpI_at] <;> exact rfl)) | skip
            intro I216 eI216
            have t217 : (0 : Int32).toInt = 0 := rfl
            have w_I216 : WD Z I216 := by rw [eI216]; exact WD_putF w_I209 3 4 kv0 (by decide) (by decide) trivial
            have f_I216 : FR [(3, 4)] Z I209 Z I216 := by rw [eI216]; exact FR_putF kv0 (by decide) List.mem_cons_self
            have q_I216 : FR Ws_X3_read Z I Z I216 := q_I209.trans w_I.1 w_I.2.1 (f_I216.mono (by decide))
            have u218 : (I216 v1 1).toInt = (I209 v1 1).toInt := by rw [f_I216.2.2.1 v1 10 1 kv1 (by decide) (by decide)]
            have u219 : (I216 v0 7).toInt = (I209 v0 7).toInt := by rw [f_I216.2.2.1 v0 3 7 kv0 (by decide) (by decide)]
            have u220 : (I216 v0 8).toInt = (I209 v0 8).toInt := by rw [f_I216.2.2.1 v0 3 8 kv0 (by decide) (by decide)]
            have u221 : (I216 v0 6).toInt = (I209 v0 6).toInt := by rw [f_I216.2.2.1 v0 3 6 kv0 (by decide) (by decide)]
            have u222 : (I216 v0 5).toInt = (I209 v0 5).toInt := by rw [f_I216.2.2.1 v0 3 5 kv0 (by decide) (by decide)]
            have u223 : (I216 v0 3).toInt = (I209 v0 3).toInt := by rw [f_I216.2.2.1 v0 3 3 kv0 (by decide) (by decide)]
            first | (have u224 : (I216 v0 4).toInt = (0) := by (rw [eI216, show jpI I209 v0 4 (0 : Int32) v0 4 = (0 : Int32) from jpI_at] <;> exact (show (0 : Int32).toInt = 0 from rfl))) | skip
            have t225 : (0 : Int32).toInt = 0 := rfl
            exact ⟨(40 - (0 : Int32).toInt).toNat + 1, l_X3_read_L122 w_I v0 v1 kv0 kv1   hQ   _ (0 : Int32) I216 L99 w_I216 q_I216   (by omega)  (by omega)⟩
          · skip
            first | (have t226 : ¬ ((I98 v0 8).toInt = (-1)) := (not_congr (i_eq rfl (show (-1 : Int32).toInt = -1 from rfl))).mp c190) | (have t226 : ¬ ((I98 v0 8).toInt = (-1 : Int32).toInt) := (not_congr (i_eq rfl rfl)).mp c190) | skip
            try (have t227 : ((-1 : Int32) - (I98 v0 8)).toInt = ((-1) - (I98 v0 8).toInt) := (i_sub (show (-1 : Int32).toInt = -1 from rfl) rfl (by omega) (by omega)))
            exact hQ ((-1 : Int32) - (I98 v0 8)) I98 L99 w_I98 q_I98 
        · skip
          first | (have t228 : ¬ ((I98 v1 1).toInt ≤ (40)) := (not_congr (i_le rfl (show (40 : Int32).toInt = 40 from rfl))).mp c188) | (have t228 : ¬ ((I98 v1 1).toInt ≤ (40 : Int32).toInt) := (not_congr (i_le rfl rfl)).mp c188) | skip
          unfold fs_X3_read_b69
          intro I229 eI229
          have w_I229 : WD Z I229 := by rw [eI229]; exact WD_putF w_I98 3 8 kv0 (by decide) (by decide) trivial
          have f_I229 : FR [(3, 8)] Z I98 Z I229 := by rw [eI229]; exact FR_putF kv0 (by decide) List.mem_cons_self
          have q_I229 : FR Ws_X3_read Z I Z I229 := q_I98.trans w_I.1 w_I.2.1 (f_I229.mono (by decide))
          have u230 : (I229 v1 1).toInt = (I98 v1 1).toInt := by rw [f_I229.2.2.1 v1 10 1 kv1 (by decide) (by decide)]
          have u231 : (I229 v0 7).toInt = (I98 v0 7).toInt := by rw [f_I229.2.2.1 v0 3 7 kv0 (by decide) (by decide)]
          have u232 : (I229 v0 6).toInt = (I98 v0 6).toInt := by rw [f_I229.2.2.1 v0 3 6 kv0 (by decide) (by decide)]
          first | (have u233 : (I229 v0 8).toInt = (I98 v0 6).toInt := by (rw [eI229, show jpI I98 v0 8 (I98 v0 6) v0 8 = (I98 v0 6) from jpI_at] <;> exact rfl)) | skip
          unfold fs_X3_read_b77
          refine ⟨fun c234 => ?_, fun c234 => ?_⟩
          · skip
            first | (have t235 : (I229 v0 8).toInt = (-1) := (i_eq rfl (show (-1 : Int32).toInt = -1 from rfl)).mp c234) | (have t235 : (I229 v0 8).toInt = (-1 : Int32).toInt := (i_eq rfl rfl).mp c234) | skip
            intro b236 eb236
            obtain ⟨x237, ex237, kb236, lb236⟩ := sh_f w_I229.1 kv0 (j := 1) (k := 14) (m := 40) rfl
            cases eb236.symm.trans ex237
            intro b238 eb238
            obtain ⟨x239, ex239, kb238, lb238⟩ := sh_f w_I229.1 kv0 (j := 0) (k := 14) (m := 40) rfl
            cases eb238.symm.trans ex239
            have t240 : (0 : Int32).toInt = 0 := rfl
            have t241 : (0 : Int32).toInt = 0 := rfl
            have t242 : (40 : Int32).toInt = 40 := rfl
            have t243 := i_nat (x := (0 : Int32)) (show (0 : Int32).toInt = 0 from rfl) (by omega)
            have t244 := i_nat (x := (0 : Int32)) (show (0 : Int32).toInt = 0 from rfl) (by omega)
            have t245 := i_nat (x := (40 : Int32)) (show (40 : Int32).toInt = 40 from rfl) (by omega)
            refine ⟨⟨(not_congr (i_lt (show (0 : Int32).toInt = 0 from rfl) (show (0 : Int32).toInt = 0 from rfl))).mpr (by omega), (not_congr (i_lt (show (0 : Int32).toInt = 0 from rfl) (show (0 : Int32).toInt = 0 from rfl))).mpr (by omega), (not_congr (i_lt (show (40 : Int32).toInt = 40 from rfl) (show (0 : Int32).toInt = 0 from rfl))).mpr (by omega), by omega, by omega⟩, ?_⟩
            intro I246 eI246
            have w_I246 : WD Z I246 := by rw [eI246]; exact WD_cpy w_I229 3 0 kv0 eb238 kb238 rfl rfl (by decide) (fun _ _ _ => trivial)
            have f_I246 : FR [(3, 0)] Z I229 Z I246 := by rw [eI246]; exact FR_upA w_I229.2.1 kv0 eb238 kb238 rfl rfl List.mem_cons_self
            have q_I246 : FR Ws_X3_read Z I Z I246 := q_I229.trans w_I.1 w_I.2.1 (f_I246.mono (by decide))
            have u247 : (I246 v1 1).toInt = (I229 v1 1).toInt := by rw [f_I246.2.2.1 v1 10 1 kv1 (by decide) (by decide)]
            have u248 : (I246 v0 7).toInt = (I229 v0 7).toInt := by rw [f_I246.2.2.1 v0 3 7 kv0 (by decide) (by decide)]
            have u249 : (I246 v0 6).toInt = (I229 v0 6).toInt := by rw [f_I246.2.2.1 v0 3 6 kv0 (by decide) (by decide)]
            have u250 : (I246 v0 8).toInt = (I229 v0 8).toInt := by rw [f_I246.2.2.1 v0 3 8 kv0 (by decide) (by decide)]
            have t252 : 0 ≤ (I246 v0 5).toInt ∧ (I246 v0 5).toInt ≤ 40 := w_I246.fld 3 5 kv0 (by decide)
            intro I253 eI253
            have w_I253 : WD Z I253 := by rw [eI253]; exact WD_putF w_I246 3 3 kv0 (by decide) (by decide) (by constructor <;> omega)
            have f_I253 : FR [(3, 3)] Z I246 Z I253 := by rw [eI253]; exact FR_putF kv0 (by decide) List.mem_cons_self
            have q_I253 : FR Ws_X3_read Z I Z I253 := q_I246.trans w_I.1 w_I.2.1 (f_I253.mono (by decide))
            have u254 : (I253 v1 1).toInt = (I246 v1 1).toInt := by rw [f_I253.2.2.1 v1 10 1 kv1 (by decide) (by decide)]
            have u255 : (I253 v0 7).toInt = (I246 v0 7).toInt := by rw [f_I253.2.2.1 v0 3 7 kv0 (by decide) (by decide)]
            have u256 : (I253 v0 6).toInt = (I246 v0 6).toInt := by rw [f_I253.2.2.1 v0 3 6 kv0 (by decide) (by decide)]
            have u257 : (I253 v0 8).toInt = (I246 v0 8).toInt := by rw [f_I253.2.2.1 v0 3 8 kv0 (by decide) (by decide)]
            have u258 : (I253 v0 5).toInt = (I246 v0 5).toInt := by rw [f_I253.2.2.1 v0 3 5 kv0 (by decide) (by decide)]
            first | (have u259 : (I253 v0 3).toInt = (I246 v0 5).toInt := by (rw [eI253, show jpI I246 v0 3 (I246 v0 5) v0 3 = (I246 v0 5) from jpI_at] <;> exact rfl)) | skip
            intro I260 eI260
            have t261 : (0 : Int32).toInt = 0 := rfl
            have w_I260 : WD Z I260 := by rw [eI260]; exact WD_putF w_I253 3 4 kv0 (by decide) (by decide) trivial
            have f_I260 : FR [(3, 4)] Z I253 Z I260 := by rw [eI260]; exact FR_putF kv0 (by decide) List.mem_cons_self
            have q_I260 : FR Ws_X3_read Z I Z I260 := q_I253.trans w_I.1 w_I.2.1 (f_I260.mono (by decide))
            have u262 : (I260 v1 1).toInt = (I253 v1 1).toInt := by rw [f_I260.2.2.1 v1 10 1 kv1 (by decide) (by decide)]
            have u263 : (I260 v0 7).toInt = (I253 v0 7).toInt := by rw [f_I260.2.2.1 v0 3 7 kv0 (by decide) (by decide)]
            have u264 : (I260 v0 6).toInt = (I253 v0 6).toInt := by rw [f_I260.2.2.1 v0 3 6 kv0 (by decide) (by decide)]
            have u265 : (I260 v0 8).toInt = (I253 v0 8).toInt := by rw [f_I260.2.2.1 v0 3 8 kv0 (by decide) (by decide)]
            have u266 : (I260 v0 5).toInt = (I253 v0 5).toInt := by rw [f_I260.2.2.1 v0 3 5 kv0 (by decide) (by decide)]
            have u267 : (I260 v0 3).toInt = (I253 v0 3).toInt := by rw [f_I260.2.2.1 v0 3 3 kv0 (by decide) (by decide)]
            first | (have u268 : (I260 v0 4).toInt = (0) := by (rw [eI260, show jpI I253 v0 4 (0 : Int32) v0 4 = (0 : Int32) from jpI_at] <;> exact (show (0 : Int32).toInt = 0 from rfl))) | skip
            have t269 : (0 : Int32).toInt = 0 := rfl
            exact ⟨(40 - (0 : Int32).toInt).toNat + 1, l_X3_read_L122 w_I v0 v1 kv0 kv1   hQ   _ (0 : Int32) I260 L99 w_I260 q_I260   (by omega)  (by omega)⟩
          · skip
            first | (have t270 : ¬ ((I229 v0 8).toInt = (-1)) := (not_congr (i_eq rfl (show (-1 : Int32).toInt = -1 from rfl))).mp c234) | (have t270 : ¬ ((I229 v0 8).toInt = (-1 : Int32).toInt) := (not_congr (i_eq rfl rfl)).mp c234) | skip
            try (have t271 : ((-1 : Int32) - (I229 v0 8)).toInt = ((-1) - (I229 v0 8).toInt) := (i_sub (show (-1 : Int32).toInt = -1 from rfl) rfl (by omega) (by omega)))
            exact hQ ((-1 : Int32) - (I229 v0 8)) I229 L99 w_I229 q_I229 
def Ws_X11_law : List (Nat × Nat) := [(3, 0), (3, 1), (3, 3), (3, 4), (3, 5), (3, 6), (3, 7), (3, 8), (10, 1)]
set_option maxHeartbeats 4000000 in
set_option maxRecDepth 100000 in
theorem s_X11_law {Z : jZ} {I : jI} {L : jL} (w_I : WD Z I) (v0 : Nat) (v1 : Int32) (kv0 : jk Z v0 11) {Q : Int32 → jI → jL → Prop} (hQ : ∀ (r : Int32) (I' : jI) (L' : jL), WD Z I' → FR Ws_X11_law Z I Z I' → Q r I' L') : fs_X11_law v0 v1 Z I L Q := by
  unfold fs_X11_law
  have q_I : FR Ws_X11_law Z I Z I := FR.rf
  have rv1 := i_rng v1
  refine ⟨fun c1 => ?_, fun c1 => ?_⟩
  · skip
    first | (have t2 : ¬ (v1.toInt = (0)) := (not_congr (i_eq rfl (show (0 : Int32).toInt = 0 from rfl))).mp c1) | (have t2 : ¬ (v1.toInt = (0 : Int32).toInt) := (not_congr (i_eq rfl rfl)).mp c1) | skip
    refine ⟨fun c3 => ?_, fun c3 => ?_⟩
    · skip
      first | (have t4 : ¬ (v1.toInt = (1)) := (not_congr (i_eq rfl (show (1 : Int32).toInt = 1 from rfl))).mp c3) | (have t4 : ¬ (v1.toInt = (1 : Int32).toInt) := (not_congr (i_eq rfl rfl)).mp c3) | skip
      unfold fs_X11_law_b45
      intro b5 eb5
      obtain ⟨x6, ex6, kb5⟩ := sh_o w_I.1 kv0 (j := 0) (k := 10) rfl
      cases eb5.symm.trans ex6
      refine s_X10_clear w_I b5 kb5   (fun  I7 L8 w_I7 f_I7  => ?_)
      have q_I7 : FR Ws_X11_law Z I Z I7 := q_I.trans w_I.1 w_I.2.1 (f_I7.mono (by decide))
      have t9 : (-100 : Int32).toInt = -100 := rfl
      exact hQ (-100 : Int32) I7 L8 w_I7 q_I7 
    · skip
      first | (have t10 : v1.toInt = (1) := (i_eq rfl (show (1 : Int32).toInt = 1 from rfl)).mp c3) | (have t10 : v1.toInt = (1 : Int32).toInt := (i_eq rfl rfl).mp c3) | skip
      intro b11 eb11
      obtain ⟨x12, ex12, kb11⟩ := sh_o w_I.1 kv0 (j := 2) (k := 8) rfl
      cases eb11.symm.trans ex12
      intro b13 eb13
      obtain ⟨x14, ex14, kb13⟩ := sh_o w_I.1 kb11 (j := 7) (k := 3) rfl
      cases eb13.symm.trans ex14
      intro b15 eb15
      obtain ⟨x16, ex16, kb15⟩ := sh_o w_I.1 kv0 (j := 0) (k := 10) rfl
      cases eb15.symm.trans ex16
      refine s_X3_read w_I b13 b15 kb13 kb15   (fun r17 I18 L19 w_I18 f_I18  => ?_)
      have q_I18 : FR Ws_X11_law Z I Z I18 := q_I.trans w_I.1 w_I.2.1 (f_I18.mono (by decide))
      have rr17 := i_rng r17
      unfold fs_X11_law_b45
      intro b20 eb20
      obtain rfl : b15 = b20 := Option.some.inj (eb15.symm.trans eb20)
      refine s_X10_clear w_I18 b15 kb15   (fun  I21 L22 w_I21 f_I21  => ?_)
      have q_I21 : FR Ws_X11_law Z I Z I21 := q_I18.trans w_I.1 w_I.2.1 (f_I21.mono (by decide))
      exact hQ r17 I21 L22 w_I21 q_I21 
  · skip
    first | (have t23 : v1.toInt = (0) := (i_eq rfl (show (0 : Int32).toInt = 0 from rfl)).mp c1) | (have t23 : v1.toInt = (0 : Int32).toInt := (i_eq rfl rfl).mp c1) | skip
    intro b24 eb24
    obtain ⟨x25, ex25, kb24⟩ := sh_o w_I.1 kv0 (j := 2) (k := 8) rfl
    cases eb24.symm.trans ex25
    intro b26 eb26
    obtain ⟨x27, ex27, kb26⟩ := sh_o w_I.1 kb24 (j := 6) (k := 3) rfl
    cases eb26.symm.trans ex27
    intro b28 eb28
    obtain ⟨x29, ex29, kb28⟩ := sh_o w_I.1 kv0 (j := 0) (k := 10) rfl
    cases eb28.symm.trans ex29
    refine s_X3_read w_I b26 b28 kb26 kb28   (fun r30 I31 L32 w_I31 f_I31  => ?_)
    have q_I31 : FR Ws_X11_law Z I Z I31 := q_I.trans w_I.1 w_I.2.1 (f_I31.mono (by decide))
    have rr30 := i_rng r30
    unfold fs_X11_law_b45
    intro b33 eb33
    obtain rfl : b28 = b33 := Option.some.inj (eb28.symm.trans eb33)
    refine s_X10_clear w_I31 b28 kb28   (fun  I34 L35 w_I34 f_I34  => ?_)
    have q_I34 : FR Ws_X11_law Z I Z I34 := q_I31.trans w_I.1 w_I.2.1 (f_I34.mono (by decide))
    exact hQ r30 I34 L35 w_I34 q_I34 
end
section

set_option maxHeartbeats 4000000 in
set_option maxRecDepth 100000 in
theorem s9_X11_law {Z : jZ} {I : jI} {L : jL} (w_I : WD Z I) (v0 : Nat) (v1 : Int32) (kv0 : jk Z v0 11) (uT : Nat) (huT : jr Z v0 0 = some uT) {Q : Int32 → jI → jL → Prop} (hQ : ∀ (r : Int32) (I' : jI) (L' : jL), WD Z I' → FR Ws_X11_law Z I Z I' → (I' uT 1).toInt = 0 → Q r I' L') : fs_X11_law v0 v1 Z I L Q := by
  unfold fs_X11_law
  have q_I : FR Ws_X11_law Z I Z I := FR.rf
  have rv1 := i_rng v1
  have kuT : jk Z uT 10 := by obtain ⟨b9, e9, k9⟩ := sh_o w_I.1 kv0 (j := 0) (k := 10) rfl; cases huT.symm.trans e9; exact k9
  have t1 : 0 ≤ (I uT 1).toInt ∧ (I uT 1).toInt ≤ 80 := w_I.fld 10 1 kuT (by decide)
  refine ⟨fun c2 => ?_, fun c2 => ?_⟩
  · skip
    first | (have t3 : ¬ (v1.toInt = (0)) := (not_congr (i_eq rfl (show (0 : Int32).toInt = 0 from rfl))).mp c2) | (have t3 : ¬ (v1.toInt = (0 : Int32).toInt) := (not_congr (i_eq rfl rfl)).mp c2) | skip
    refine ⟨fun c4 => ?_, fun c4 => ?_⟩
    · skip
      first | (have t5 : ¬ (v1.toInt = (1)) := (not_congr (i_eq rfl (show (1 : Int32).toInt = 1 from rfl))).mp c4) | (have t5 : ¬ (v1.toInt = (1 : Int32).toInt) := (not_congr (i_eq rfl rfl)).mp c4) | skip
      unfold fs_X11_law_b45
      intro b6 eb6
      obtain rfl : uT = b6 := Option.some.inj (huT.symm.trans eb6)
      refine s9_X10_clear w_I uT kuT   (fun  I8 L9 w_I8 f_I8 p7 => ?_)
      have q_I8 : FR Ws_X11_law Z I Z I8 := q_I.trans w_I.1 w_I.2.1 (f_I8.mono (by decide))
      have t10 : (-100 : Int32).toInt = -100 := rfl
      exact hQ (-100 : Int32) I8 L9 w_I8 q_I8 (by omega)
    · skip
      first | (have t11 : v1.toInt = (1) := (i_eq rfl (show (1 : Int32).toInt = 1 from rfl)).mp c4) | (have t11 : v1.toInt = (1 : Int32).toInt := (i_eq rfl rfl).mp c4) | skip
      intro b12 eb12
      obtain ⟨x13, ex13, kb12⟩ := sh_o w_I.1 kv0 (j := 2) (k := 8) rfl
      cases eb12.symm.trans ex13
      intro b14 eb14
      obtain ⟨x15, ex15, kb14⟩ := sh_o w_I.1 kb12 (j := 7) (k := 3) rfl
      cases eb14.symm.trans ex15
      intro b16 eb16
      obtain rfl : uT = b16 := Option.some.inj (huT.symm.trans eb16)
      refine s_X3_read w_I b14 uT kb14 kuT   (fun r17 I18 L19 w_I18 f_I18  => ?_)
      have q_I18 : FR Ws_X11_law Z I Z I18 := q_I.trans w_I.1 w_I.2.1 (f_I18.mono (by decide))
      have u20 : (I18 uT 1).toInt = (I uT 1).toInt := by rw [f_I18.2.2.1 uT 10 1 kuT (by decide) (by decide)]
      have rr17 := i_rng r17
      unfold fs_X11_law_b45
      intro b21 eb21
      obtain rfl : uT = b21 := Option.some.inj (huT.symm.trans eb21)
      refine s9_X10_clear w_I18 uT kuT   (fun  I23 L24 w_I23 f_I23 p22 => ?_)
      have q_I23 : FR Ws_X11_law Z I Z I23 := q_I18.trans w_I.1 w_I.2.1 (f_I23.mono (by decide))
      exact hQ r17 I23 L24 w_I23 q_I23 (by omega)
  · skip
    first | (have t25 : v1.toInt = (0) := (i_eq rfl (show (0 : Int32).toInt = 0 from rfl)).mp c2) | (have t25 : v1.toInt = (0 : Int32).toInt := (i_eq rfl rfl).mp c2) | skip
    intro b26 eb26
    obtain ⟨x27, ex27, kb26⟩ := sh_o w_I.1 kv0 (j := 2) (k := 8) rfl
    cases eb26.symm.trans ex27
    intro b28 eb28
    obtain ⟨x29, ex29, kb28⟩ := sh_o w_I.1 kb26 (j := 6) (k := 3) rfl
    cases eb28.symm.trans ex29
    intro b30 eb30
    obtain rfl : uT = b30 := Option.some.inj (huT.symm.trans eb30)
    refine s_X3_read w_I b28 uT kb28 kuT   (fun r31 I32 L33 w_I32 f_I32  => ?_)
    have q_I32 : FR Ws_X11_law Z I Z I32 := q_I.trans w_I.1 w_I.2.1 (f_I32.mono (by decide))
    have u34 : (I32 uT 1).toInt = (I uT 1).toInt := by rw [f_I32.2.2.1 uT 10 1 kuT (by decide) (by decide)]
    have rr31 := i_rng r31
    unfold fs_X11_law_b45
    intro b35 eb35
    obtain rfl : uT = b35 := Option.some.inj (huT.symm.trans eb35)
    refine s9_X10_clear w_I32 uT kuT   (fun  I37 L38 w_I37 f_I37 p36 => ?_)
    have q_I37 : FR Ws_X11_law Z I Z I37 := q_I32.trans w_I.1 w_I.2.1 (f_I37.mono (by decide))
    exact hQ r31 I37 L38 w_I37 q_I37 (by omega)
end
section
/-! ===== the model's prices are a function of what is told: two runs side by side ===== -/
/-- what is left to show comes to one end K -/
def GO {Qt : Type} (OKK : (Qt → Prop) → Prop) (B : Qt → Prop) : Prop := ∃ K, OKK K ∧ ∀ Q, B Q ↔ K Q
section GOS
variable {Qt : Type} {OKK : (Qt → Prop) → Prop}
theorem GO.ite {c X Y : Prop} {B C : Qt → Prop} (h : (c → X) ∧ (¬ c → Y)) (k1 : c → X → GO OKK B) (k2 : ¬ c → Y → GO OKK C) : GO OKK (fun Q => (c → B Q) ∧ (¬ c → C Q)) := by
  by_cases hc : c
  · obtain ⟨K, h1, h2⟩ := k1 hc (h.1 hc)
    exact ⟨K, h1, fun Q => ⟨fun z => (h2 Q).mp (z.1 hc), fun z => ⟨fun _ => (h2 Q).mpr z, fun n => absurd hc n⟩⟩⟩
  · obtain ⟨K, h1, h2⟩ := k2 hc (h.2 hc)
    exact ⟨K, h1, fun Q => ⟨fun z => (h2 Q).mp (z.2 hc), fun z => ⟨fun n => absurd n hc, fun _ => (h2 Q).mpr z⟩⟩⟩
theorem GO.itn {c X Y : Prop} {B C : Qt → Prop} (h : (¬ c → X) ∧ (c → Y)) (k1 : ¬ c → X → GO OKK B) (k2 : c → Y → GO OKK C) : GO OKK (fun Q => (¬ c → B Q) ∧ (c → C Q)) := by
  by_cases hc : c
  · obtain ⟨K, h1, h2⟩ := k2 hc (h.2 hc)
    exact ⟨K, h1, fun Q => ⟨fun z => (h2 Q).mp (z.2 hc), fun z => ⟨fun n => absurd hc n, fun _ => (h2 Q).mpr z⟩⟩⟩
  · obtain ⟨K, h1, h2⟩ := k1 hc (h.1 hc)
    exact ⟨K, h1, fun Q => ⟨fun z => (h2 Q).mp (z.1 hc), fun z => ⟨fun _ => (h2 Q).mpr z, fun n => absurd n hc⟩⟩⟩
theorem GO.eq {α : Type} {e e' : α} {X : α → Prop} {B : α → Qt → Prop} (h : ∀ x, x = e → X x) (k : X e → GO OKK (B e')) : GO OKK (fun Q => ∀ x, x = e' → B x Q) := by
  obtain ⟨K, h1, h2⟩ := k (h e rfl)
  exact ⟨K, h1, fun Q => ⟨fun z => (h2 Q).mp (z e' rfl), fun z x ex => by rw [ex]; exact (h2 Q).mpr z⟩⟩
theorem GO.ob {o X : Prop} {B : Qt → Prop} (h : o ∧ X) (k : o → X → GO OKK B) : GO OKK (fun Q => o ∧ B Q) := by
  obtain ⟨K, h1, h2⟩ := k h.1 h.2
  exact ⟨K, h1, fun Q => ⟨fun z => (h2 Q).mp z.2, fun z => ⟨h.1, (h2 Q).mpr z⟩⟩⟩
theorem GO.ref {Z ZJ : jZ} {v j b : Nat} {X : Nat → Prop} {B : Nat → Qt → Prop} (e : jr Z v j = some b) (e' : jr ZJ v j = some b) (h : ∀ b, jr Z v j = some b → X b) (k : X b → GO OKK (B b)) : GO OKK (fun Q => ∀ b, jr ZJ v j = some b → B b Q) := by
  obtain ⟨K, h1, h2⟩ := k (h b e)
  exact ⟨K, h1, fun Q => ⟨fun z => (h2 Q).mp (z b e'), fun z b2 e2 => by cases e'.symm.trans e2; exact (h2 Q).mpr z⟩⟩
theorem GO.rd {Z ZJ : jZ} {v b : Nat} {X : Nat → Prop} {B : Nat → Qt → Prop} (e : jr Z v 23 = some b) (e' : jr ZJ v 23 = some b) (k' : jk ZJ b 13) (h : ∃ b, jr Z v 23 = some b ∧ jk Z b 13 ∧ X b) (k : X b → GO OKK (B b)) : GO OKK (fun Q => ∃ b, jr ZJ v 23 = some b ∧ jk ZJ b 13 ∧ B b Q) := by
  obtain ⟨b2, g1, g2, g3⟩ := h
  cases e.symm.trans g1
  obtain ⟨K, h1, h2⟩ := k g3
  exact ⟨K, h1, fun Q => ⟨fun ⟨b3, z1, _, z3⟩ => by cases e'.symm.trans z1; exact (h2 Q).mp z3, fun z => ⟨b, e', k', (h2 Q).mpr z⟩⟩⟩
/-- the ends: of a method that writes nothing, of one with an answer, of one without, of one that changes the pool -/
def OKP (A : Int32 → jI → jL → Prop) (I : jI) (L : jL) (J : jI) (M : jL) : ((Int32 → jI → jL → Prop) → Prop) → Prop := fun K => ∃ r, A r I L ∧ K = fun Q => Q r J M
def OKI (R : jI → jL → jI → jL → Prop) (A : Int32 → jI → jL → Prop) : ((Int32 → jI → jL → Prop) → Prop) → Prop := fun K => ∃ r I L J M, A r I L ∧ R I L J M ∧ K = fun Q => Q r J M
def OKV (R : jI → jL → jI → jL → Prop) (A : jI → jL → Prop) : ((jI → jL → Prop) → Prop) → Prop := fun K => ∃ I L J M, A I L ∧ R I L J M ∧ K = fun Q => Q J M
def OKZ (R : jZ → jI → jL → jZ → jI → jL → Prop) (A : Int32 → jZ → jI → jL → Prop) : ((Int32 → jZ → jI → jL → Prop) → Prop) → Prop := fun K => ∃ r Z I L ZJ J M, A r Z I L ∧ R Z I L ZJ J M ∧ K = fun Q => Q r ZJ J M
/-- the ends of a loop's body: the method's end, or the loop again -/
def OKB (OKK : (Qt → Prop) → Prop) : ((Qt × Nat) → Prop) → Prop := fun K => (∃ K0, OKK K0 ∧ K = fun q => K0 q.1) ∨ (∃ Bk : Nat → Qt → Prop, GO OKK (fun Q => ∃ m, Bk m Q) ∧ K = fun q => Bk q.2 q.1)
theorem GO.leafP {A : Int32 → jI → jL → Prop} {r : Int32} {I : jI} {L : jL} {J : jI} {M : jL} (h : A r I L) : GO (OKP A I L J M) (fun Q => Q r J M) := ⟨_, ⟨r, h, rfl⟩, fun _ => Iff.rfl⟩
theorem GO.leafI {R : jI → jL → jI → jL → Prop} {A : Int32 → jI → jL → Prop} {r : Int32} {I : jI} {L : jL} {J : jI} {M : jL} (ag : R I L J M) (h : A r I L) : GO (OKI R A) (fun Q => Q r J M) := ⟨_, ⟨r, I, L, J, M, h, ag, rfl⟩, fun _ => Iff.rfl⟩
theorem GO.leafV {R : jI → jL → jI → jL → Prop} {A : jI → jL → Prop} {I : jI} {L : jL} {J : jI} {M : jL} (ag : R I L J M) (h : A I L) : GO (OKV R A) (fun Q => Q J M) := ⟨_, ⟨I, L, J, M, h, ag, rfl⟩, fun _ => Iff.rfl⟩
theorem GO.leafZ {R : jZ → jI → jL → jZ → jI → jL → Prop} {A : Int32 → jZ → jI → jL → Prop} {r : Int32} {Z : jZ} {I : jI} {L : jL} {ZJ : jZ} {J : jI} {M : jL} (ag : R Z I L ZJ J M) (h : A r Z I L) : GO (OKZ R A) (fun Q => Q r ZJ J M) := ⟨_, ⟨r, Z, I, L, ZJ, J, M, h, ag, rfl⟩, fun _ => Iff.rfl⟩
theorem GO.leafB {B : Qt → Prop} (g : GO OKK B) : GO (OKB OKK) (fun q => B q.1) := by
  obtain ⟨K, h1, h2⟩ := g
  exact ⟨_, Or.inl ⟨K, h1, rfl⟩, fun q => h2 q.1⟩
theorem GO.back {Bk : Nat → Qt → Prop} (g : GO OKK (fun Q => ∃ m, Bk m Q)) : GO (OKB OKK) (fun q => Bk q.2 q.1) := ⟨_, Or.inr ⟨Bk, g, rfl⟩, fun _ => Iff.rfl⟩
theorem GO.loop {Bm : Nat → Qt → Prop} (h0 : ∀ Q, ¬ Bm 0 Q) (g : GO (OKB OKK) (fun q => Bm (q.2 + 1) q.1)) : GO OKK (fun Q => ∃ m, Bm m Q) := by
  obtain ⟨K, h1, h2⟩ := g
  have h3 : ∀ Q, (∃ m, Bm m Q) ↔ ∃ m, K (Q, m) := fun Q => ⟨fun ⟨m, hm⟩ => by
      cases m with
      | zero => exact absurd hm (h0 Q)
      | succ m => exact ⟨m, (h2 (Q, m)).mp hm⟩, fun ⟨m, hm⟩ => ⟨m + 1, (h2 (Q, m)).mpr hm⟩⟩
  rcases h1 with ⟨K0, g1, rfl⟩ | ⟨Bk, ⟨K0, g1, g2⟩, rfl⟩
  · exact ⟨K0, g1, fun Q => (h3 Q).trans ⟨fun ⟨_, z⟩ => z, fun z => ⟨0, z⟩⟩⟩
  · exact ⟨K0, g1, fun Q => (h3 Q).trans (g2 Q)⟩
theorem GO.callP {A : Int32 → jI → jL → Prop} {I : jI} {L : jL} {J : jI} {M : jL} {P : (Int32 → jI → jL → Prop) → Prop} {A' : Int32 → jI → jL → Qt → Prop} (D : GO (OKP A I L J M) P) (k : ∀ r, A r I L → GO OKK (A' r J M)) : GO OKK (fun Q => P (fun r I L => A' r I L Q)) := by
  obtain ⟨K, ⟨r, h1, rfl⟩, h2⟩ := D
  obtain ⟨K2, g1, g2⟩ := k r h1
  exact ⟨K2, g1, fun Q => (h2 _).trans (g2 Q)⟩
theorem GO.callI {R : jI → jL → jI → jL → Prop} {A : Int32 → jI → jL → Prop} {P : (Int32 → jI → jL → Prop) → Prop} {A' : Int32 → jI → jL → Qt → Prop} (D : GO (OKI R A) P) (k : ∀ r I L J M, R I L J M → A r I L → GO OKK (A' r J M)) : GO OKK (fun Q => P (fun r I L => A' r I L Q)) := by
  obtain ⟨K, ⟨r, I, L, J, M, h1, ag, rfl⟩, h2⟩ := D
  obtain ⟨K2, g1, g2⟩ := k r I L J M ag h1
  exact ⟨K2, g1, fun Q => (h2 _).trans (g2 Q)⟩
theorem GO.callV {R : jI → jL → jI → jL → Prop} {A : jI → jL → Prop} {P : (jI → jL → Prop) → Prop} {A' : jI → jL → Qt → Prop} (D : GO (OKV R A) P) (k : ∀ I L J M, R I L J M → A I L → GO OKK (A' J M)) : GO OKK (fun Q => P (fun I L => A' I L Q)) := by
  obtain ⟨K, ⟨I, L, J, M, h1, ag, rfl⟩, h2⟩ := D
  obtain ⟨K2, g1, g2⟩ := k I L J M ag h1
  exact ⟨K2, g1, fun Q => (h2 _).trans (g2 Q)⟩
theorem GO.callZ {R : jZ → jI → jL → jZ → jI → jL → Prop} {A : Int32 → jZ → jI → jL → Prop} {P : (Int32 → jZ → jI → jL → Prop) → Prop} {A' : Int32 → jZ → jI → jL → Qt → Prop} (D : GO (OKZ R A) P) (k : ∀ r Z I L ZJ J M, R Z I L ZJ J M → A r Z I L → GO OKK (A' r ZJ J M)) : GO OKK (fun Q => P (fun r Z I L => A' r Z I L Q)) := by
  obtain ⟨K, ⟨r, Z, I, L, ZJ, J, M, h1, ag, rfl⟩, h2⟩ := D
  obtain ⟨K2, g1, g2⟩ := k r Z I L ZJ J M ag h1
  exact ⟨K2, g1, fun Q => (h2 _).trans (g2 Q)⟩
end GOS
/-- two worlds that agree on what prices read (E: they are the same) -/
def A0 (E : Prop) (v0 : Nat) (Z : jZ) (I : jI) (L : jL) (ZJ : jZ) (J : jI) (M : jL) : Prop :=
  (E → ZJ = Z ∧ J = I ∧ M = L) ∧
  (∀ j, j ∈ ([1, 2, 3, 4, 5, 6, 11, 12, 13, 30] : List Nat) → ∃ b, jr Z v0 j = some b ∧ jr ZJ v0 j = some b ∧ b ≠ v0 ∧ J b = I b) ∧
  (∃ b, jr Z v0 29 = some b ∧ jr ZJ v0 29 = some b ∧ b ≠ v0 ∧ ∀ k, k < 2 → ∃ c, jr Z b k = some c ∧ jr ZJ b k = some c ∧ c ≠ v0 ∧ jk Z c 13 ∧ jk ZJ c 13 ∧ jlen ZJ c = jlen Z c ∧ J c = I c)
def AF (S : List Nat) (v0 : Nat) (I J : jI) : Prop := ∀ j, j ∈ S → J v0 j = I v0 j
def RDn (v0 : Nat) (Z : jZ) (I : jI) (ZJ : jZ) (J : jI) : Prop := ∃ b, jr Z v0 23 = some b ∧ jr ZJ v0 23 = some b ∧ b ≠ v0 ∧ jk Z b 13 ∧ jk ZJ b 13 ∧ jlen ZJ b = jlen Z b ∧ J b = I b
def A1 (E : Prop) (v0 : Nat) (Z : jZ) (I : jI) (L : jL) (ZJ : jZ) (J : jI) (M : jL) : Prop := A0 E v0 Z I L ZJ J M ∧ RDn v0 Z I ZJ J ∧ AF [24, 25, 26, 27, 31, 32, 33, 34] v0 I J
theorem A0.arr {E : Prop} {v0 : Nat} {Z : jZ} {I : jI} {L : jL} {ZJ : jZ} {J : jI} {M : jL} (ag : A0 E v0 Z I L ZJ J M) (j : Nat) {b : Nat} (hj : j ∈ ([1, 2, 3, 4, 5, 6, 11, 12, 13, 30] : List Nat)) (e : jr Z v0 j = some b) : J b = I b := by
  obtain ⟨b2, g1, _, _, g4⟩ := ag.2.1 j hj
  cases e.symm.trans g1; exact g4
theorem A0.put {E : Prop} {v0 : Nat} {Z : jZ} {I : jI} {L : jL} {ZJ : jZ} {J : jI} {M : jL} (ag : A0 E v0 Z I L ZJ J M) (k : Nat) (x : Int32) : A0 E v0 Z (jpI I v0 k x) L ZJ (jpI J v0 k x) M := by
  refine ⟨fun e => ⟨(ag.1 e).1, by rw [(ag.1 e).2.1], (ag.1 e).2.2⟩, fun j hj => ?_, ?_⟩
  · obtain ⟨b, g1, g2, g3, g4⟩ := ag.2.1 j hj
    exact ⟨b, g1, g2, g3, by rw [jpI_ne g3, jpI_ne g3]; exact g4⟩
  · obtain ⟨b, g1, g2, g3, g4⟩ := ag.2.2
    refine ⟨b, g1, g2, g3, fun k2 hk => ?_⟩
    obtain ⟨c, f1, f2, f3, f4, f5, f6, f7⟩ := g4 k2 hk
    exact ⟨c, f1, f2, f3, f4, f5, f6, by rw [jpI_ne f3, jpI_ne f3]; exact f7⟩
theorem AF.put {S : List Nat} {v0 : Nat} {I J : jI} (h : AF S v0 I J) (k : Nat) (x : Int32) : AF (k :: S) v0 (jpI I v0 k x) (jpI J v0 k x) := by
  intro j hj
  by_cases e : j = k
  · subst e; rw [jpI_at, jpI_at]
  · rw [jpI_off e, jpI_off e]
    exact h j ((List.mem_cons.mp hj).resolve_left e)
theorem A1.put {E : Prop} {v0 : Nat} {Z : jZ} {I : jI} {L : jL} {ZJ : jZ} {J : jI} {M : jL} (ag : A1 E v0 Z I L ZJ J M) (k : Nat) (x : Int32) : A1 E v0 Z (jpI I v0 k x) L ZJ (jpI J v0 k x) M := by
  refine ⟨ag.1.put k x, ?_, fun j hj => (ag.2.2.put k x) j (List.mem_cons_of_mem _ hj)⟩
  obtain ⟨b, g1, g2, g3, g4, g5, g6, g7⟩ := ag.2.1
  exact ⟨b, g1, g2, g3, g4, g5, g6, by rw [jpI_ne g3, jpI_ne g3]; exact g7⟩
theorem GO.put {Qt : Type} {OKK : (Qt → Prop) → Prop} {E : Prop} {v0 : Nat} {Z : jZ} {I : jI} {L : jL} {ZJ : jZ} {J : jI} {M : jL} (ag : A1 E v0 Z I L ZJ J M) {n : Nat} {x : Int32} {X : jI → Prop} {B : jI → Qt → Prop} (h : ∀ I1, I1 = jpI I v0 n x → X I1) (k : ∀ I1 J1, A1 E v0 Z I1 L ZJ J1 M → X I1 → GO OKK (B J1)) : GO OKK (fun Q => ∀ J1, J1 = jpI J v0 n x → B J1 Q) :=
  GO.eq h (k _ _ (ag.put n x))
def HT (F : FTR12) : Prop := ∀ (w : Nat), w < 4 → ∀ {E : Prop} {v0 : Nat} {v1 : Int32} {Z : jZ} {I : jI} {L : jL} {ZJ : jZ} {J : jI} {M : jL} {A : Int32 → jI → jL → Prop}, A1 E v0 Z I L ZJ J M → F w v0 v1 Z I L A → GO (OKI (fun I L J M => A1 E v0 Z I L ZJ J M) A) (fun Q => F w v0 v1 ZJ J M Q)
end
section
set_option maxHeartbeats 4000000 in
set_option maxRecDepth 100000 in
theorem t_X12_in {E : Prop} {v9 : Nat} {v0 : Int32} {v1 : Int32} {v2 : Int32} {Z : jZ} {I : jI} {L : jL} {ZJ : jZ} {J : jI} {M : jL} {A : Int32 → jI → jL → Prop} (ag : A1 E v9 Z I L ZJ J M) (h : f_X12_in v0 v1 v2 Z I L A) : GO (OKP A I L J M) (fun Q => f_X12_in v0 v1 v2 ZJ J M Q) := by
  unfold f_X12_in at h ⊢
  try rw [ag.2.2 24 (by decide)]
  try rw [ag.2.2 25 (by decide)]
  try rw [ag.2.2 26 (by decide)]
  try rw [ag.2.2 27 (by decide)]
  try rw [ag.2.2 31 (by decide)]
  try rw [ag.2.2 32 (by decide)]
  try rw [ag.2.2 33 (by decide)]
  try rw [ag.2.2 34 (by decide)]
  refine GO.ite h (fun c h => ?_) (fun c h => ?_)
  · skip
    exact GO.leafP h
  · skip
    refine GO.ite h (fun c h => ?_) (fun c h => ?_)
    · skip
      exact GO.leafP h
    · skip
      exact GO.leafP h
set_option maxHeartbeats 4000000 in
set_option maxRecDepth 100000 in
theorem t_X12_fine {E : Prop} {v0 : Nat} {Z : jZ} {I : jI} {L : jL} {ZJ : jZ} {J : jI} {M : jL} {A : Int32 → jI → jL → Prop} (ag : A1 E v0 Z I L ZJ J M) (h : f_X12_fine v0 Z I L A) : GO (OKP A I L J M) (fun Q => f_X12_fine v0 ZJ J M Q) := by
  unfold f_X12_fine at h ⊢
  try rw [ag.2.2 24 (by decide)]
  try rw [ag.2.2 25 (by decide)]
  try rw [ag.2.2 26 (by decide)]
  try rw [ag.2.2 27 (by decide)]
  try rw [ag.2.2 31 (by decide)]
  try rw [ag.2.2 32 (by decide)]
  try rw [ag.2.2 33 (by decide)]
  try rw [ag.2.2 34 (by decide)]
  refine GO.itn h (fun c h => ?_) (fun c h => ?_)
  · skip
    exact GO.leafP h
  · skip
    exact GO.leafP h
set_option maxHeartbeats 4000000 in
set_option maxRecDepth 100000 in
theorem t_X12_here {E : Prop} {v0 : Nat} {Z : jZ} {I : jI} {L : jL} {ZJ : jZ} {J : jI} {M : jL} {A : Int32 → jI → jL → Prop} (ag : A1 E v0 Z I L ZJ J M) (h : f_X12_here v0 Z I L A) : GO (OKP A I L J M) (fun Q => f_X12_here v0 ZJ J M Q) := by
  unfold f_X12_here at h ⊢
  try rw [ag.2.2 24 (by decide)]
  try rw [ag.2.2 25 (by decide)]
  try rw [ag.2.2 26 (by decide)]
  try rw [ag.2.2 27 (by decide)]
  try rw [ag.2.2 31 (by decide)]
  try rw [ag.2.2 32 (by decide)]
  try rw [ag.2.2 33 (by decide)]
  try rw [ag.2.2 34 (by decide)]
  refine GO.ite h (fun c h => ?_) (fun c h => ?_)
  · skip
    exact GO.leafP h
  · skip
    refine GO.ite h (fun c h => ?_) (fun c h => ?_)
    · skip
      exact GO.leafP h
    · skip
      obtain ⟨b9, e9, f9, n9, k9, j9, l9, a9⟩ := ag.2.1
      refine GO.rd e9 f9 j9 h (fun h => ?_)
      try rw [l9]
      try rw [a9]
      refine GO.ob h (fun o h => ?_)
      exact GO.leafP h
set_option maxHeartbeats 4000000 in
set_option maxRecDepth 100000 in
theorem t_X12_fault {E : Prop} {v0 : Nat} {v1 : Int32} {Z : jZ} {I : jI} {L : jL} {ZJ : jZ} {J : jI} {M : jL} {A : jI → jL → Prop} (ag : A1 E v0 Z I L ZJ J M) (h : f_X12_fault v0 v1 Z I L A) : GO (OKV (fun I L J M => A1 E v0 Z I L ZJ J M) A) (fun Q => f_X12_fault v0 v1 ZJ J M Q) := by
  unfold f_X12_fault at h ⊢
  try rw [ag.2.2 24 (by decide)]
  try rw [ag.2.2 25 (by decide)]
  try rw [ag.2.2 26 (by decide)]
  try rw [ag.2.2 27 (by decide)]
  try rw [ag.2.2 31 (by decide)]
  try rw [ag.2.2 32 (by decide)]
  try rw [ag.2.2 33 (by decide)]
  try rw [ag.2.2 34 (by decide)]
  refine GO.callP (t_X12_fine ag h) (fun r h => ?_)
  try rw [ag.2.2 24 (by decide)]
  try rw [ag.2.2 25 (by decide)]
  try rw [ag.2.2 26 (by decide)]
  try rw [ag.2.2 27 (by decide)]
  try rw [ag.2.2 31 (by decide)]
  try rw [ag.2.2 32 (by decide)]
  try rw [ag.2.2 33 (by decide)]
  try rw [ag.2.2 34 (by decide)]
  refine GO.ite h (fun c h => ?_) (fun c h => ?_)
  · skip
    exact GO.leafV ag h
  · skip
    refine GO.put ag h (fun I J ag h => ?_)
    try rw [ag.2.2 24 (by decide)]
    try rw [ag.2.2 25 (by decide)]
    try rw [ag.2.2 26 (by decide)]
    try rw [ag.2.2 27 (by decide)]
    try rw [ag.2.2 31 (by decide)]
    try rw [ag.2.2 32 (by decide)]
    try rw [ag.2.2 33 (by decide)]
    try rw [ag.2.2 34 (by decide)]
    exact GO.leafV ag h
set_option maxHeartbeats 4000000 in
set_option maxRecDepth 100000 in
theorem t_X12_passes {E : Prop} {v0 : Nat} {v1 : Int32} {Z : jZ} {I : jI} {L : jL} {ZJ : jZ} {J : jI} {M : jL} {A : Int32 → jI → jL → Prop} (ag : A1 E v0 Z I L ZJ J M) (h : f_X12_passes v0 v1 Z I L A) : GO (OKI (fun I L J M => A1 E v0 Z I L ZJ J M) A) (fun Q => f_X12_passes v0 v1 ZJ J M Q) := by
  unfold f_X12_passes at h ⊢
  try rw [ag.2.2 24 (by decide)]
  try rw [ag.2.2 25 (by decide)]
  try rw [ag.2.2 26 (by decide)]
  try rw [ag.2.2 27 (by decide)]
  try rw [ag.2.2 31 (by decide)]
  try rw [ag.2.2 32 (by decide)]
  try rw [ag.2.2 33 (by decide)]
  try rw [ag.2.2 34 (by decide)]
  refine GO.callP (t_X12_fine ag h) (fun r h => ?_)
  try rw [ag.2.2 24 (by decide)]
  try rw [ag.2.2 25 (by decide)]
  try rw [ag.2.2 26 (by decide)]
  try rw [ag.2.2 27 (by decide)]
  try rw [ag.2.2 31 (by decide)]
  try rw [ag.2.2 32 (by decide)]
  try rw [ag.2.2 33 (by decide)]
  try rw [ag.2.2 34 (by decide)]
  refine GO.ite h (fun c h => ?_) (fun c h => ?_)
  · skip
    exact GO.leafI ag h
  · skip
    refine GO.callP (t_X12_here ag h) (fun r h => ?_)
    try rw [ag.2.2 24 (by decide)]
    try rw [ag.2.2 25 (by decide)]
    try rw [ag.2.2 26 (by decide)]
    try rw [ag.2.2 27 (by decide)]
    try rw [ag.2.2 31 (by decide)]
    try rw [ag.2.2 32 (by decide)]
    try rw [ag.2.2 33 (by decide)]
    try rw [ag.2.2 34 (by decide)]
    refine GO.ite h (fun c h => ?_) (fun c h => ?_)
    · skip
      refine GO.put ag h (fun I J ag h => ?_)
      try rw [ag.2.2 24 (by decide)]
      try rw [ag.2.2 25 (by decide)]
      try rw [ag.2.2 26 (by decide)]
      try rw [ag.2.2 27 (by decide)]
      try rw [ag.2.2 31 (by decide)]
      try rw [ag.2.2 32 (by decide)]
      try rw [ag.2.2 33 (by decide)]
      try rw [ag.2.2 34 (by decide)]
      exact GO.leafI ag h
    · skip
      exact GO.leafI ag h
set_option maxHeartbeats 4000000 in
set_option maxRecDepth 100000 in
theorem t_X12_need {E : Prop} {v0 : Nat} {v1 : Int32} {Z : jZ} {I : jI} {L : jL} {ZJ : jZ} {J : jI} {M : jL} {A : jI → jL → Prop} (ag : A1 E v0 Z I L ZJ J M) (h : f_X12_need v0 v1 Z I L A) : GO (OKV (fun I L J M => A1 E v0 Z I L ZJ J M) A) (fun Q => f_X12_need v0 v1 ZJ J M Q) := by
  unfold f_X12_need at h ⊢
  try rw [ag.2.2 24 (by decide)]
  try rw [ag.2.2 25 (by decide)]
  try rw [ag.2.2 26 (by decide)]
  try rw [ag.2.2 27 (by decide)]
  try rw [ag.2.2 31 (by decide)]
  try rw [ag.2.2 32 (by decide)]
  try rw [ag.2.2 33 (by decide)]
  try rw [ag.2.2 34 (by decide)]
  refine GO.callI (t_X12_passes ag h) (fun r I L J M ag h => ?_)
  try rw [ag.2.2 24 (by decide)]
  try rw [ag.2.2 25 (by decide)]
  try rw [ag.2.2 26 (by decide)]
  try rw [ag.2.2 27 (by decide)]
  try rw [ag.2.2 31 (by decide)]
  try rw [ag.2.2 32 (by decide)]
  try rw [ag.2.2 33 (by decide)]
  try rw [ag.2.2 34 (by decide)]
  refine GO.itn h (fun c h => ?_) (fun c h => ?_)
  · skip
    exact GO.leafV ag h
  · skip
    refine GO.callV (t_X12_fault ag h) (fun I L J M ag h => ?_)
    try rw [ag.2.2 24 (by decide)]
    try rw [ag.2.2 25 (by decide)]
    try rw [ag.2.2 26 (by decide)]
    try rw [ag.2.2 27 (by decide)]
    try rw [ag.2.2 31 (by decide)]
    try rw [ag.2.2 32 (by decide)]
    try rw [ag.2.2 33 (by decide)]
    try rw [ag.2.2 34 (by decide)]
    exact GO.leafV ag h
set_option maxHeartbeats 4000000 in
set_option maxRecDepth 100000 in
theorem tl_X12_number_L18 {E : Prop} {v0 : Nat} {Z ZJ : jZ} {A : Int32 → jI → jL → Prop} : ∀ (n : Nat) {v1 : Int32} {v2 : Int32} {v3 : Int32} {v4 : Int32} {v5 : Int32} {I : jI} {L : jL} {J : jI} {M : jL}, A1 E v0 Z I L ZJ J M → f_X12_number_L18 Z A n v0 v1 v2 v3 v4 v5 I L → GO (OKI (fun I L J M => A1 E v0 Z I L ZJ J M) A) (fun Q => ∃ m, f_X12_number_L18 ZJ Q m v0 v1 v2 v3 v4 v5 J M) := by
  intro n
  induction n with
  | zero => intro v1 v2 v3 v4 v5 I L J M ag h; exact h.elim
  | succ n ih =>
    intro v1 v2 v3 v4 v5 I L J M ag h
    refine GO.loop (Bm := fun m Q => f_X12_number_L18 ZJ Q m v0 v1 v2 v3 v4 v5 J M) (fun _ h => h) ?_
    show GO _ (fun q : (Int32 → jI → jL → Prop) × Nat => f_X12_number_L18 ZJ q.1 (q.2 + 1) v0 v1 v2 v3 v4 v5 J M)
    unfold f_X12_number_L18 at h ⊢
    try rw [ag.2.2 24 (by decide)]
    try rw [ag.2.2 25 (by decide)]
    try rw [ag.2.2 26 (by decide)]
    try rw [ag.2.2 27 (by decide)]
    try rw [ag.2.2 31 (by decide)]
    try rw [ag.2.2 32 (by decide)]
    try rw [ag.2.2 33 (by decide)]
    try rw [ag.2.2 34 (by decide)]
    refine GO.ite h (fun c h => ?_) (fun c h => ?_)
    · skip
      unfold f_X12_number_b71 at h ⊢
      try rw [ag.2.2 24 (by decide)]
      try rw [ag.2.2 25 (by decide)]
      try rw [ag.2.2 26 (by decide)]
      try rw [ag.2.2 27 (by decide)]
      try rw [ag.2.2 31 (by decide)]
      try rw [ag.2.2 32 (by decide)]
      try rw [ag.2.2 33 (by decide)]
      try rw [ag.2.2 34 (by decide)]
      refine GO.itn h (fun c h => ?_) (fun c h => ?_)
      · skip
        refine GO.callP (t_X12_in ag h) (fun r h => ?_)
        try rw [ag.2.2 24 (by decide)]
        try rw [ag.2.2 25 (by decide)]
        try rw [ag.2.2 26 (by decide)]
        try rw [ag.2.2 27 (by decide)]
        try rw [ag.2.2 31 (by decide)]
        try rw [ag.2.2 32 (by decide)]
        try rw [ag.2.2 33 (by decide)]
        try rw [ag.2.2 34 (by decide)]
        refine GO.itn h (fun c h => ?_) (fun c h => ?_)
        · skip
          unfold f_X12_number_b111 at h ⊢
          try rw [ag.2.2 24 (by decide)]
          try rw [ag.2.2 25 (by decide)]
          try rw [ag.2.2 26 (by decide)]
          try rw [ag.2.2 27 (by decide)]
          try rw [ag.2.2 31 (by decide)]
          try rw [ag.2.2 32 (by decide)]
          try rw [ag.2.2 33 (by decide)]
          try rw [ag.2.2 34 (by decide)]
          refine GO.callP (t_X12_fine ag h) (fun r h => ?_)
          try rw [ag.2.2 24 (by decide)]
          try rw [ag.2.2 25 (by decide)]
          try rw [ag.2.2 26 (by decide)]
          try rw [ag.2.2 27 (by decide)]
          try rw [ag.2.2 31 (by decide)]
          try rw [ag.2.2 32 (by decide)]
          try rw [ag.2.2 33 (by decide)]
          try rw [ag.2.2 34 (by decide)]
          refine GO.ite h (fun c h => ?_) (fun c h => ?_)
          · skip
            exact GO.leafB (B := fun (Q : Int32 → jI → jL → Prop) => Q _ _ _) (GO.leafI ag h)
          · skip
            exact GO.leafB (B := fun (Q : Int32 → jI → jL → Prop) => Q _ _ _) (GO.leafI ag h)
        · skip
          refine GO.callV (t_X12_fault ag h) (fun I L J M ag h => ?_)
          try rw [ag.2.2 24 (by decide)]
          try rw [ag.2.2 25 (by decide)]
          try rw [ag.2.2 26 (by decide)]
          try rw [ag.2.2 27 (by decide)]
          try rw [ag.2.2 31 (by decide)]
          try rw [ag.2.2 32 (by decide)]
          try rw [ag.2.2 33 (by decide)]
          try rw [ag.2.2 34 (by decide)]
          unfold f_X12_number_b111 at h ⊢
          try rw [ag.2.2 24 (by decide)]
          try rw [ag.2.2 25 (by decide)]
          try rw [ag.2.2 26 (by decide)]
          try rw [ag.2.2 27 (by decide)]
          try rw [ag.2.2 31 (by decide)]
          try rw [ag.2.2 32 (by decide)]
          try rw [ag.2.2 33 (by decide)]
          try rw [ag.2.2 34 (by decide)]
          refine GO.callP (t_X12_fine ag h) (fun r h => ?_)
          try rw [ag.2.2 24 (by decide)]
          try rw [ag.2.2 25 (by decide)]
          try rw [ag.2.2 26 (by decide)]
          try rw [ag.2.2 27 (by decide)]
          try rw [ag.2.2 31 (by decide)]
          try rw [ag.2.2 32 (by decide)]
          try rw [ag.2.2 33 (by decide)]
          try rw [ag.2.2 34 (by decide)]
          refine GO.ite h (fun c h => ?_) (fun c h => ?_)
          · skip
            exact GO.leafB (B := fun (Q : Int32 → jI → jL → Prop) => Q _ _ _) (GO.leafI ag h)
          · skip
            exact GO.leafB (B := fun (Q : Int32 → jI → jL → Prop) => Q _ _ _) (GO.leafI ag h)
      · skip
        refine GO.callV (t_X12_fault ag h) (fun I L J M ag h => ?_)
        try rw [ag.2.2 24 (by decide)]
        try rw [ag.2.2 25 (by decide)]
        try rw [ag.2.2 26 (by decide)]
        try rw [ag.2.2 27 (by decide)]
        try rw [ag.2.2 31 (by decide)]
        try rw [ag.2.2 32 (by decide)]
        try rw [ag.2.2 33 (by decide)]
        try rw [ag.2.2 34 (by decide)]
        unfold f_X12_number_b111 at h ⊢
        try rw [ag.2.2 24 (by decide)]
        try rw [ag.2.2 25 (by decide)]
        try rw [ag.2.2 26 (by decide)]
        try rw [ag.2.2 27 (by decide)]
        try rw [ag.2.2 31 (by decide)]
        try rw [ag.2.2 32 (by decide)]
        try rw [ag.2.2 33 (by decide)]
        try rw [ag.2.2 34 (by decide)]
        refine GO.callP (t_X12_fine ag h) (fun r h => ?_)
        try rw [ag.2.2 24 (by decide)]
        try rw [ag.2.2 25 (by decide)]
        try rw [ag.2.2 26 (by decide)]
        try rw [ag.2.2 27 (by decide)]
        try rw [ag.2.2 31 (by decide)]
        try rw [ag.2.2 32 (by decide)]
        try rw [ag.2.2 33 (by decide)]
        try rw [ag.2.2 34 (by decide)]
        refine GO.ite h (fun c h => ?_) (fun c h => ?_)
        · skip
          exact GO.leafB (B := fun (Q : Int32 → jI → jL → Prop) => Q _ _ _) (GO.leafI ag h)
        · skip
          exact GO.leafB (B := fun (Q : Int32 → jI → jL → Prop) => Q _ _ _) (GO.leafI ag h)
    · skip
      refine GO.callP (t_X12_here ag h) (fun r h => ?_)
      try rw [ag.2.2 24 (by decide)]
      try rw [ag.2.2 25 (by decide)]
      try rw [ag.2.2 26 (by decide)]
      try rw [ag.2.2 27 (by decide)]
      try rw [ag.2.2 31 (by decide)]
      try rw [ag.2.2 32 (by decide)]
      try rw [ag.2.2 33 (by decide)]
      try rw [ag.2.2 34 (by decide)]
      refine GO.callP (t_X12_in ag h) (fun r h => ?_)
      try rw [ag.2.2 24 (by decide)]
      try rw [ag.2.2 25 (by decide)]
      try rw [ag.2.2 26 (by decide)]
      try rw [ag.2.2 27 (by decide)]
      try rw [ag.2.2 31 (by decide)]
      try rw [ag.2.2 32 (by decide)]
      try rw [ag.2.2 33 (by decide)]
      try rw [ag.2.2 34 (by decide)]
      refine GO.ite h (fun c h => ?_) (fun c h => ?_)
      · skip
        unfold f_X12_number_b71 at h ⊢
        try rw [ag.2.2 24 (by decide)]
        try rw [ag.2.2 25 (by decide)]
        try rw [ag.2.2 26 (by decide)]
        try rw [ag.2.2 27 (by decide)]
        try rw [ag.2.2 31 (by decide)]
        try rw [ag.2.2 32 (by decide)]
        try rw [ag.2.2 33 (by decide)]
        try rw [ag.2.2 34 (by decide)]
        refine GO.itn h (fun c h => ?_) (fun c h => ?_)
        · skip
          refine GO.callP (t_X12_in ag h) (fun r h => ?_)
          try rw [ag.2.2 24 (by decide)]
          try rw [ag.2.2 25 (by decide)]
          try rw [ag.2.2 26 (by decide)]
          try rw [ag.2.2 27 (by decide)]
          try rw [ag.2.2 31 (by decide)]
          try rw [ag.2.2 32 (by decide)]
          try rw [ag.2.2 33 (by decide)]
          try rw [ag.2.2 34 (by decide)]
          refine GO.itn h (fun c h => ?_) (fun c h => ?_)
          · skip
            unfold f_X12_number_b111 at h ⊢
            try rw [ag.2.2 24 (by decide)]
            try rw [ag.2.2 25 (by decide)]
            try rw [ag.2.2 26 (by decide)]
            try rw [ag.2.2 27 (by decide)]
            try rw [ag.2.2 31 (by decide)]
            try rw [ag.2.2 32 (by decide)]
            try rw [ag.2.2 33 (by decide)]
            try rw [ag.2.2 34 (by decide)]
            refine GO.callP (t_X12_fine ag h) (fun r h => ?_)
            try rw [ag.2.2 24 (by decide)]
            try rw [ag.2.2 25 (by decide)]
            try rw [ag.2.2 26 (by decide)]
            try rw [ag.2.2 27 (by decide)]
            try rw [ag.2.2 31 (by decide)]
            try rw [ag.2.2 32 (by decide)]
            try rw [ag.2.2 33 (by decide)]
            try rw [ag.2.2 34 (by decide)]
            refine GO.ite h (fun c h => ?_) (fun c h => ?_)
            · skip
              exact GO.leafB (B := fun (Q : Int32 → jI → jL → Prop) => Q _ _ _) (GO.leafI ag h)
            · skip
              exact GO.leafB (B := fun (Q : Int32 → jI → jL → Prop) => Q _ _ _) (GO.leafI ag h)
          · skip
            refine GO.callV (t_X12_fault ag h) (fun I L J M ag h => ?_)
            try rw [ag.2.2 24 (by decide)]
            try rw [ag.2.2 25 (by decide)]
            try rw [ag.2.2 26 (by decide)]
            try rw [ag.2.2 27 (by decide)]
            try rw [ag.2.2 31 (by decide)]
            try rw [ag.2.2 32 (by decide)]
            try rw [ag.2.2 33 (by decide)]
            try rw [ag.2.2 34 (by decide)]
            unfold f_X12_number_b111 at h ⊢
            try rw [ag.2.2 24 (by decide)]
            try rw [ag.2.2 25 (by decide)]
            try rw [ag.2.2 26 (by decide)]
            try rw [ag.2.2 27 (by decide)]
            try rw [ag.2.2 31 (by decide)]
            try rw [ag.2.2 32 (by decide)]
            try rw [ag.2.2 33 (by decide)]
            try rw [ag.2.2 34 (by decide)]
            refine GO.callP (t_X12_fine ag h) (fun r h => ?_)
            try rw [ag.2.2 24 (by decide)]
            try rw [ag.2.2 25 (by decide)]
            try rw [ag.2.2 26 (by decide)]
            try rw [ag.2.2 27 (by decide)]
            try rw [ag.2.2 31 (by decide)]
            try rw [ag.2.2 32 (by decide)]
            try rw [ag.2.2 33 (by decide)]
            try rw [ag.2.2 34 (by decide)]
            refine GO.ite h (fun c h => ?_) (fun c h => ?_)
            · skip
              exact GO.leafB (B := fun (Q : Int32 → jI → jL → Prop) => Q _ _ _) (GO.leafI ag h)
            · skip
              exact GO.leafB (B := fun (Q : Int32 → jI → jL → Prop) => Q _ _ _) (GO.leafI ag h)
        · skip
          refine GO.callV (t_X12_fault ag h) (fun I L J M ag h => ?_)
          try rw [ag.2.2 24 (by decide)]
          try rw [ag.2.2 25 (by decide)]
          try rw [ag.2.2 26 (by decide)]
          try rw [ag.2.2 27 (by decide)]
          try rw [ag.2.2 31 (by decide)]
          try rw [ag.2.2 32 (by decide)]
          try rw [ag.2.2 33 (by decide)]
          try rw [ag.2.2 34 (by decide)]
          unfold f_X12_number_b111 at h ⊢
          try rw [ag.2.2 24 (by decide)]
          try rw [ag.2.2 25 (by decide)]
          try rw [ag.2.2 26 (by decide)]
          try rw [ag.2.2 27 (by decide)]
          try rw [ag.2.2 31 (by decide)]
          try rw [ag.2.2 32 (by decide)]
          try rw [ag.2.2 33 (by decide)]
          try rw [ag.2.2 34 (by decide)]
          refine GO.callP (t_X12_fine ag h) (fun r h => ?_)
          try rw [ag.2.2 24 (by decide)]
          try rw [ag.2.2 25 (by decide)]
          try rw [ag.2.2 26 (by decide)]
          try rw [ag.2.2 27 (by decide)]
          try rw [ag.2.2 31 (by decide)]
          try rw [ag.2.2 32 (by decide)]
          try rw [ag.2.2 33 (by decide)]
          try rw [ag.2.2 34 (by decide)]
          refine GO.ite h (fun c h => ?_) (fun c h => ?_)
          · skip
            exact GO.leafB (B := fun (Q : Int32 → jI → jL → Prop) => Q _ _ _) (GO.leafI ag h)
          · skip
            exact GO.leafB (B := fun (Q : Int32 → jI → jL → Prop) => Q _ _ _) (GO.leafI ag h)
      · skip
        refine GO.callP (t_X12_here ag h) (fun r h => ?_)
        try rw [ag.2.2 24 (by decide)]
        try rw [ag.2.2 25 (by decide)]
        try rw [ag.2.2 26 (by decide)]
        try rw [ag.2.2 27 (by decide)]
        try rw [ag.2.2 31 (by decide)]
        try rw [ag.2.2 32 (by decide)]
        try rw [ag.2.2 33 (by decide)]
        try rw [ag.2.2 34 (by decide)]
        refine GO.eq h (fun h => ?_)
        refine GO.put ag h (fun I J ag h => ?_)
        try rw [ag.2.2 24 (by decide)]
        try rw [ag.2.2 25 (by decide)]
        try rw [ag.2.2 26 (by decide)]
        try rw [ag.2.2 27 (by decide)]
        try rw [ag.2.2 31 (by decide)]
        try rw [ag.2.2 32 (by decide)]
        try rw [ag.2.2 33 (by decide)]
        try rw [ag.2.2 34 (by decide)]
        have g9 := GO.back (ih ag h)
        exact g9
set_option maxHeartbeats 4000000 in
set_option maxRecDepth 100000 in
theorem t_X12_number {E : Prop} {v0 : Nat} {v1 : Int32} {v2 : Int32} {v3 : Int32} {Z : jZ} {I : jI} {L : jL} {ZJ : jZ} {J : jI} {M : jL} {A : Int32 → jI → jL → Prop} (ag : A1 E v0 Z I L ZJ J M) (h : f_X12_number v0 v1 v2 v3 Z I L A) : GO (OKI (fun I L J M => A1 E v0 Z I L ZJ J M) A) (fun Q => f_X12_number v0 v1 v2 v3 ZJ J M Q) := by
  unfold f_X12_number at h ⊢
  try rw [ag.2.2 24 (by decide)]
  try rw [ag.2.2 25 (by decide)]
  try rw [ag.2.2 26 (by decide)]
  try rw [ag.2.2 27 (by decide)]
  try rw [ag.2.2 31 (by decide)]
  try rw [ag.2.2 32 (by decide)]
  try rw [ag.2.2 33 (by decide)]
  try rw [ag.2.2 34 (by decide)]
  refine GO.callP (t_X12_fine ag h) (fun r h => ?_)
  try rw [ag.2.2 24 (by decide)]
  try rw [ag.2.2 25 (by decide)]
  try rw [ag.2.2 26 (by decide)]
  try rw [ag.2.2 27 (by decide)]
  try rw [ag.2.2 31 (by decide)]
  try rw [ag.2.2 32 (by decide)]
  try rw [ag.2.2 33 (by decide)]
  try rw [ag.2.2 34 (by decide)]
  refine GO.itn h (fun c h => ?_) (fun c h => ?_)
  · skip
    refine GO.eq h (fun h => ?_)
    obtain ⟨n9, h⟩ := h
    exact tl_X12_number_L18 n9 ag h
  · skip
    exact GO.leafI ag h
set_option maxHeartbeats 4000000 in
set_option maxRecDepth 100000 in
theorem tl_X12_mainOf_L4 {E : Prop} {v0 : Nat} {Z ZJ : jZ} {A : Int32 → jI → jL → Prop} : ∀ (n : Nat) {v1 : Int32} {v2 : Int32} {v3 : Int32} {I : jI} {L : jL} {J : jI} {M : jL}, A0 E v0 Z I L ZJ J M → f_X12_mainOf_L4 Z A n v0 v1 v2 v3 I L → GO (OKP A I L J M) (fun Q => ∃ m, f_X12_mainOf_L4 ZJ Q m v0 v1 v2 v3 J M) := by
  intro n
  induction n with
  | zero => intro v1 v2 v3 I L J M ag h; exact h.elim
  | succ n ih =>
    intro v1 v2 v3 I L J M ag h
    refine GO.loop (Bm := fun m Q => f_X12_mainOf_L4 ZJ Q m v0 v1 v2 v3 J M) (fun _ h => h) ?_
    show GO _ (fun q : (Int32 → jI → jL → Prop) × Nat => f_X12_mainOf_L4 ZJ q.1 (q.2 + 1) v0 v1 v2 v3 J M)
    unfold f_X12_mainOf_L4 at h ⊢
    refine GO.ite h (fun c h => ?_) (fun c h => ?_)
    · skip
      exact GO.leafB (B := fun (Q : Int32 → jI → jL → Prop) => Q _ _ _) (GO.leafP h)
    · skip
      obtain ⟨b1, eb1, fb1, nb1, ab1⟩ := ag.2.1 5 (by decide)
      refine GO.ref eb1 fb1 h (fun h => ?_)
      try rw [ab1]
      refine GO.ob h (fun o h => ?_)
      obtain ⟨b2, eb2, fb2, nb2, ab2⟩ := ag.2.1 5 (by decide)
      refine GO.ref eb2 fb2 h (fun h => ?_)
      try rw [ab2]
      refine GO.ob h (fun o h => ?_)
      refine GO.ite h (fun c h => ?_) (fun c h => ?_)
      · skip
        unfold f_X12_mainOf_b37 at h ⊢
        try rw [ag.arr 5 (by decide) eb1]
        try rw [ag.arr 5 (by decide) eb2]
        refine GO.eq h (fun h => ?_)
        have g9 := GO.back (ih ag h)
        exact g9
      · skip
        unfold f_X12_mainOf_b37 at h ⊢
        try rw [ag.arr 5 (by decide) eb1]
        try rw [ag.arr 5 (by decide) eb2]
        refine GO.eq h (fun h => ?_)
        have g9 := GO.back (ih ag h)
        exact g9
set_option maxHeartbeats 4000000 in
set_option maxRecDepth 100000 in
theorem t_X12_mainOf {E : Prop} {v0 : Nat} {v1 : Int32} {Z : jZ} {I : jI} {L : jL} {ZJ : jZ} {J : jI} {M : jL} {A : Int32 → jI → jL → Prop} (ag : A0 E v0 Z I L ZJ J M) (h : f_X12_mainOf v0 v1 Z I L A) : GO (OKP A I L J M) (fun Q => f_X12_mainOf v0 v1 ZJ J M Q) := by
  unfold f_X12_mainOf at h ⊢
  obtain ⟨n9, h⟩ := h
  exact tl_X12_mainOf_L4 n9 ag h
set_option maxHeartbeats 4000000 in
set_option maxRecDepth 100000 in
theorem t_X12_letter {E : Prop} {v0 : Nat} {v1 : Int32} {Z : jZ} {I : jI} {L : jL} {ZJ : jZ} {J : jI} {M : jL} {A : Int32 → jI → jL → Prop} (ag : A1 E v0 Z I L ZJ J M) (h : f_X12_letter v0 v1 Z I L A) : GO (OKP A I L J M) (fun Q => f_X12_letter v0 v1 ZJ J M Q) := by
  unfold f_X12_letter at h ⊢
  try rw [ag.2.2 24 (by decide)]
  try rw [ag.2.2 25 (by decide)]
  try rw [ag.2.2 26 (by decide)]
  try rw [ag.2.2 27 (by decide)]
  try rw [ag.2.2 31 (by decide)]
  try rw [ag.2.2 32 (by decide)]
  try rw [ag.2.2 33 (by decide)]
  try rw [ag.2.2 34 (by decide)]
  refine GO.ite h (fun c h => ?_) (fun c h => ?_)
  · skip
    obtain ⟨b1, eb1, fb1, nb1, ab1⟩ := ag.1.2.1 3 (by decide)
    refine GO.ref eb1 fb1 h (fun h => ?_)
    try rw [ab1]
    refine GO.ob h (fun o h => ?_)
    exact GO.leafP h
  · skip
    refine GO.ite h (fun c h => ?_) (fun c h => ?_)
    · skip
      exact GO.leafP h
    · skip
      refine GO.ite h (fun c h => ?_) (fun c h => ?_)
      · skip
        obtain ⟨b2, eb2, fb2, nb2, ab2⟩ := ag.1.2.1 1 (by decide)
        refine GO.ref eb2 fb2 h (fun h => ?_)
        try rw [ab2]
        refine GO.ob h (fun o h => ?_)
        exact GO.leafP h
      · skip
        refine GO.ite h (fun c h => ?_) (fun c h => ?_)
        · skip
          obtain ⟨b3, eb3, fb3, nb3, ab3⟩ := ag.1.2.1 2 (by decide)
          refine GO.ref eb3 fb3 h (fun h => ?_)
          try rw [ab3]
          refine GO.ob h (fun o h => ?_)
          exact GO.leafP h
        · skip
          refine GO.ite h (fun c h => ?_) (fun c h => ?_)
          · skip
            obtain ⟨b4, eb4, fb4, nb4, ab4⟩ := ag.1.2.1 4 (by decide)
            refine GO.ref eb4 fb4 h (fun h => ?_)
            try rw [ab4]
            refine GO.ob h (fun o h => ?_)
            refine GO.ite h (fun c h => ?_) (fun c h => ?_)
            · skip
              exact GO.leafP h
            · skip
              exact GO.leafP h
          · skip
            refine GO.ite h (fun c h => ?_) (fun c h => ?_)
            · skip
              refine GO.ite h (fun c h => ?_) (fun c h => ?_)
              · skip
                exact GO.leafP h
              · skip
                obtain ⟨b5, eb5, fb5, nb5, ab5⟩ := ag.1.2.1 6 (by decide)
                refine GO.ref eb5 fb5 h (fun h => ?_)
                try rw [ab5]
                refine GO.callP (t_X12_mainOf ag.1 h) (fun r h => ?_)
                try rw [ag.2.2 24 (by decide)]
                try rw [ag.2.2 25 (by decide)]
                try rw [ag.2.2 26 (by decide)]
                try rw [ag.2.2 27 (by decide)]
                try rw [ag.2.2 31 (by decide)]
                try rw [ag.2.2 32 (by decide)]
                try rw [ag.2.2 33 (by decide)]
                try rw [ag.2.2 34 (by decide)]
                try rw [ag.1.arr 6 (by decide) eb5]
                refine GO.callP (t_X12_mainOf ag.1 h) (fun r h => ?_)
                try rw [ag.2.2 24 (by decide)]
                try rw [ag.2.2 25 (by decide)]
                try rw [ag.2.2 26 (by decide)]
                try rw [ag.2.2 27 (by decide)]
                try rw [ag.2.2 31 (by decide)]
                try rw [ag.2.2 32 (by decide)]
                try rw [ag.2.2 33 (by decide)]
                try rw [ag.2.2 34 (by decide)]
                try rw [ag.1.arr 6 (by decide) eb5]
                refine GO.ob h (fun o h => ?_)
                refine GO.ite h (fun c h => ?_) (fun c h => ?_)
                · skip
                  exact GO.leafP h
                · skip
                  exact GO.leafP h
            · skip
              exact GO.leafP h
set_option maxHeartbeats 4000000 in
set_option maxRecDepth 100000 in
theorem t_X12_held {F : FTR12} (hF : HT F) {E : Prop} {v0 : Nat} {v1 : Int32} {Z : jZ} {I : jI} {L : jL} {ZJ : jZ} {J : jI} {M : jL} {A : Int32 → jI → jL → Prop} (ag : A1 E v0 Z I L ZJ J M) (h : f_X12_held F v0 v1 Z I L A) : GO (OKI (fun I L J M => A1 E v0 Z I L ZJ J M) A) (fun Q => f_X12_held F v0 v1 ZJ J M Q) := by
  unfold f_X12_held at h ⊢
  try rw [ag.2.2 24 (by decide)]
  try rw [ag.2.2 25 (by decide)]
  try rw [ag.2.2 26 (by decide)]
  try rw [ag.2.2 27 (by decide)]
  try rw [ag.2.2 31 (by decide)]
  try rw [ag.2.2 32 (by decide)]
  try rw [ag.2.2 33 (by decide)]
  try rw [ag.2.2 34 (by decide)]
  refine GO.callI (hF 1 (by decide) ag h) (fun r I L J M ag h => ?_)
  try rw [ag.2.2 24 (by decide)]
  try rw [ag.2.2 25 (by decide)]
  try rw [ag.2.2 26 (by decide)]
  try rw [ag.2.2 27 (by decide)]
  try rw [ag.2.2 31 (by decide)]
  try rw [ag.2.2 32 (by decide)]
  try rw [ag.2.2 33 (by decide)]
  try rw [ag.2.2 34 (by decide)]
  refine GO.callI (t_X12_passes ag h) (fun r I L J M ag h => ?_)
  try rw [ag.2.2 24 (by decide)]
  try rw [ag.2.2 25 (by decide)]
  try rw [ag.2.2 26 (by decide)]
  try rw [ag.2.2 27 (by decide)]
  try rw [ag.2.2 31 (by decide)]
  try rw [ag.2.2 32 (by decide)]
  try rw [ag.2.2 33 (by decide)]
  try rw [ag.2.2 34 (by decide)]
  refine GO.ite h (fun c h => ?_) (fun c h => ?_)
  · skip
    refine GO.callI (t_X12_passes ag h) (fun r I L J M ag h => ?_)
    try rw [ag.2.2 24 (by decide)]
    try rw [ag.2.2 25 (by decide)]
    try rw [ag.2.2 26 (by decide)]
    try rw [ag.2.2 27 (by decide)]
    try rw [ag.2.2 31 (by decide)]
    try rw [ag.2.2 32 (by decide)]
    try rw [ag.2.2 33 (by decide)]
    try rw [ag.2.2 34 (by decide)]
    refine GO.ite h (fun c h => ?_) (fun c h => ?_)
    · skip
      refine GO.callI (t_X12_passes ag h) (fun r I L J M ag h => ?_)
      try rw [ag.2.2 24 (by decide)]
      try rw [ag.2.2 25 (by decide)]
      try rw [ag.2.2 26 (by decide)]
      try rw [ag.2.2 27 (by decide)]
      try rw [ag.2.2 31 (by decide)]
      try rw [ag.2.2 32 (by decide)]
      try rw [ag.2.2 33 (by decide)]
      try rw [ag.2.2 34 (by decide)]
      refine GO.ite h (fun c h => ?_) (fun c h => ?_)
      · skip
        exact GO.leafI ag h
      · skip
        refine GO.callI (hF 1 (by decide) ag h) (fun r I L J M ag h => ?_)
        try rw [ag.2.2 24 (by decide)]
        try rw [ag.2.2 25 (by decide)]
        try rw [ag.2.2 26 (by decide)]
        try rw [ag.2.2 27 (by decide)]
        try rw [ag.2.2 31 (by decide)]
        try rw [ag.2.2 32 (by decide)]
        try rw [ag.2.2 33 (by decide)]
        try rw [ag.2.2 34 (by decide)]
        refine GO.itn h (fun c h => ?_) (fun c h => ?_)
        · skip
          exact GO.leafI ag h
        · skip
          exact GO.leafI ag h
    · skip
      refine GO.callI (hF 1 (by decide) ag h) (fun r I L J M ag h => ?_)
      try rw [ag.2.2 24 (by decide)]
      try rw [ag.2.2 25 (by decide)]
      try rw [ag.2.2 26 (by decide)]
      try rw [ag.2.2 27 (by decide)]
      try rw [ag.2.2 31 (by decide)]
      try rw [ag.2.2 32 (by decide)]
      try rw [ag.2.2 33 (by decide)]
      try rw [ag.2.2 34 (by decide)]
      refine GO.ite h (fun c h => ?_) (fun c h => ?_)
      · skip
        exact GO.leafI ag h
      · skip
        exact GO.leafI ag h
  · skip
    refine GO.callI (hF 1 (by decide) ag h) (fun r I L J M ag h => ?_)
    try rw [ag.2.2 24 (by decide)]
    try rw [ag.2.2 25 (by decide)]
    try rw [ag.2.2 26 (by decide)]
    try rw [ag.2.2 27 (by decide)]
    try rw [ag.2.2 31 (by decide)]
    try rw [ag.2.2 32 (by decide)]
    try rw [ag.2.2 33 (by decide)]
    try rw [ag.2.2 34 (by decide)]
    refine GO.ite h (fun c h => ?_) (fun c h => ?_)
    · skip
      exact GO.leafI ag h
    · skip
      exact GO.leafI ag h
set_option maxHeartbeats 4000000 in
set_option maxRecDepth 100000 in
theorem tl_X12_sum_L6 {F : FTR12} (hF : HT F) {E : Prop} {v0 : Nat} {Z ZJ : jZ} {A : Int32 → jI → jL → Prop} : ∀ (n : Nat) {v1 : Int32} {v2 : Int32} {I : jI} {L : jL} {J : jI} {M : jL}, A1 E v0 Z I L ZJ J M → f_X12_sum_L6 F Z A n v0 v1 v2 I L → GO (OKI (fun I L J M => A1 E v0 Z I L ZJ J M) A) (fun Q => ∃ m, f_X12_sum_L6 F ZJ Q m v0 v1 v2 J M) := by
  intro n
  induction n with
  | zero => intro v1 v2 I L J M ag h; exact h.elim
  | succ n ih =>
    intro v1 v2 I L J M ag h
    refine GO.loop (Bm := fun m Q => f_X12_sum_L6 F ZJ Q m v0 v1 v2 J M) (fun _ h => h) ?_
    show GO _ (fun q : (Int32 → jI → jL → Prop) × Nat => f_X12_sum_L6 F ZJ q.1 (q.2 + 1) v0 v1 v2 J M)
    unfold f_X12_sum_L6 at h ⊢
    try rw [ag.2.2 24 (by decide)]
    try rw [ag.2.2 25 (by decide)]
    try rw [ag.2.2 26 (by decide)]
    try rw [ag.2.2 27 (by decide)]
    try rw [ag.2.2 31 (by decide)]
    try rw [ag.2.2 32 (by decide)]
    try rw [ag.2.2 33 (by decide)]
    try rw [ag.2.2 34 (by decide)]
    refine GO.callP (t_X12_fine ag h) (fun r h => ?_)
    try rw [ag.2.2 24 (by decide)]
    try rw [ag.2.2 25 (by decide)]
    try rw [ag.2.2 26 (by decide)]
    try rw [ag.2.2 27 (by decide)]
    try rw [ag.2.2 31 (by decide)]
    try rw [ag.2.2 32 (by decide)]
    try rw [ag.2.2 33 (by decide)]
    try rw [ag.2.2 34 (by decide)]
    refine GO.ite h (fun c h => ?_) (fun c h => ?_)
    · skip
      exact GO.leafB (B := fun (Q : Int32 → jI → jL → Prop) => Q _ _ _) (GO.leafI ag h)
    · skip
      refine GO.callP (t_X12_here ag h) (fun r h => ?_)
      try rw [ag.2.2 24 (by decide)]
      try rw [ag.2.2 25 (by decide)]
      try rw [ag.2.2 26 (by decide)]
      try rw [ag.2.2 27 (by decide)]
      try rw [ag.2.2 31 (by decide)]
      try rw [ag.2.2 32 (by decide)]
      try rw [ag.2.2 33 (by decide)]
      try rw [ag.2.2 34 (by decide)]
      refine GO.ite h (fun c h => ?_) (fun c h => ?_)
      · skip
        unfold f_X12_sum_b31 at h ⊢
        try rw [ag.2.2 24 (by decide)]
        try rw [ag.2.2 25 (by decide)]
        try rw [ag.2.2 26 (by decide)]
        try rw [ag.2.2 27 (by decide)]
        try rw [ag.2.2 31 (by decide)]
        try rw [ag.2.2 32 (by decide)]
        try rw [ag.2.2 33 (by decide)]
        try rw [ag.2.2 34 (by decide)]
        refine GO.callP (t_X12_here ag h) (fun r h => ?_)
        try rw [ag.2.2 24 (by decide)]
        try rw [ag.2.2 25 (by decide)]
        try rw [ag.2.2 26 (by decide)]
        try rw [ag.2.2 27 (by decide)]
        try rw [ag.2.2 31 (by decide)]
        try rw [ag.2.2 32 (by decide)]
        try rw [ag.2.2 33 (by decide)]
        try rw [ag.2.2 34 (by decide)]
        refine GO.itn h (fun c h => ?_) (fun c h => ?_)
        · skip
          unfold f_X12_sum_b45 at h ⊢
          try rw [ag.2.2 24 (by decide)]
          try rw [ag.2.2 25 (by decide)]
          try rw [ag.2.2 26 (by decide)]
          try rw [ag.2.2 27 (by decide)]
          try rw [ag.2.2 31 (by decide)]
          try rw [ag.2.2 32 (by decide)]
          try rw [ag.2.2 33 (by decide)]
          try rw [ag.2.2 34 (by decide)]
          refine GO.put ag h (fun I J ag h => ?_)
          try rw [ag.2.2 24 (by decide)]
          try rw [ag.2.2 25 (by decide)]
          try rw [ag.2.2 26 (by decide)]
          try rw [ag.2.2 27 (by decide)]
          try rw [ag.2.2 31 (by decide)]
          try rw [ag.2.2 32 (by decide)]
          try rw [ag.2.2 33 (by decide)]
          try rw [ag.2.2 34 (by decide)]
          refine GO.callI (hF 2 (by decide) ag h) (fun r I L J M ag h => ?_)
          try rw [ag.2.2 24 (by decide)]
          try rw [ag.2.2 25 (by decide)]
          try rw [ag.2.2 26 (by decide)]
          try rw [ag.2.2 27 (by decide)]
          try rw [ag.2.2 31 (by decide)]
          try rw [ag.2.2 32 (by decide)]
          try rw [ag.2.2 33 (by decide)]
          try rw [ag.2.2 34 (by decide)]
          refine GO.ite h (fun c h => ?_) (fun c h => ?_)
          · skip
            unfold f_X12_sum_b78 at h ⊢
            try rw [ag.2.2 24 (by decide)]
            try rw [ag.2.2 25 (by decide)]
            try rw [ag.2.2 26 (by decide)]
            try rw [ag.2.2 27 (by decide)]
            try rw [ag.2.2 31 (by decide)]
            try rw [ag.2.2 32 (by decide)]
            try rw [ag.2.2 33 (by decide)]
            try rw [ag.2.2 34 (by decide)]
            have g9 := GO.back (ih ag h)
            exact g9
          · skip
            unfold f_X12_sum_b78 at h ⊢
            try rw [ag.2.2 24 (by decide)]
            try rw [ag.2.2 25 (by decide)]
            try rw [ag.2.2 26 (by decide)]
            try rw [ag.2.2 27 (by decide)]
            try rw [ag.2.2 31 (by decide)]
            try rw [ag.2.2 32 (by decide)]
            try rw [ag.2.2 33 (by decide)]
            try rw [ag.2.2 34 (by decide)]
            have g9 := GO.back (ih ag h)
            exact g9
        · skip
          unfold f_X12_sum_b45 at h ⊢
          try rw [ag.2.2 24 (by decide)]
          try rw [ag.2.2 25 (by decide)]
          try rw [ag.2.2 26 (by decide)]
          try rw [ag.2.2 27 (by decide)]
          try rw [ag.2.2 31 (by decide)]
          try rw [ag.2.2 32 (by decide)]
          try rw [ag.2.2 33 (by decide)]
          try rw [ag.2.2 34 (by decide)]
          refine GO.put ag h (fun I J ag h => ?_)
          try rw [ag.2.2 24 (by decide)]
          try rw [ag.2.2 25 (by decide)]
          try rw [ag.2.2 26 (by decide)]
          try rw [ag.2.2 27 (by decide)]
          try rw [ag.2.2 31 (by decide)]
          try rw [ag.2.2 32 (by decide)]
          try rw [ag.2.2 33 (by decide)]
          try rw [ag.2.2 34 (by decide)]
          refine GO.callI (hF 2 (by decide) ag h) (fun r I L J M ag h => ?_)
          try rw [ag.2.2 24 (by decide)]
          try rw [ag.2.2 25 (by decide)]
          try rw [ag.2.2 26 (by decide)]
          try rw [ag.2.2 27 (by decide)]
          try rw [ag.2.2 31 (by decide)]
          try rw [ag.2.2 32 (by decide)]
          try rw [ag.2.2 33 (by decide)]
          try rw [ag.2.2 34 (by decide)]
          refine GO.ite h (fun c h => ?_) (fun c h => ?_)
          · skip
            unfold f_X12_sum_b78 at h ⊢
            try rw [ag.2.2 24 (by decide)]
            try rw [ag.2.2 25 (by decide)]
            try rw [ag.2.2 26 (by decide)]
            try rw [ag.2.2 27 (by decide)]
            try rw [ag.2.2 31 (by decide)]
            try rw [ag.2.2 32 (by decide)]
            try rw [ag.2.2 33 (by decide)]
            try rw [ag.2.2 34 (by decide)]
            have g9 := GO.back (ih ag h)
            exact g9
          · skip
            unfold f_X12_sum_b78 at h ⊢
            try rw [ag.2.2 24 (by decide)]
            try rw [ag.2.2 25 (by decide)]
            try rw [ag.2.2 26 (by decide)]
            try rw [ag.2.2 27 (by decide)]
            try rw [ag.2.2 31 (by decide)]
            try rw [ag.2.2 32 (by decide)]
            try rw [ag.2.2 33 (by decide)]
            try rw [ag.2.2 34 (by decide)]
            have g9 := GO.back (ih ag h)
            exact g9
      · skip
        refine GO.callP (t_X12_here ag h) (fun r h => ?_)
        try rw [ag.2.2 24 (by decide)]
        try rw [ag.2.2 25 (by decide)]
        try rw [ag.2.2 26 (by decide)]
        try rw [ag.2.2 27 (by decide)]
        try rw [ag.2.2 31 (by decide)]
        try rw [ag.2.2 32 (by decide)]
        try rw [ag.2.2 33 (by decide)]
        try rw [ag.2.2 34 (by decide)]
        refine GO.itn h (fun c h => ?_) (fun c h => ?_)
        · skip
          exact GO.leafB (B := fun (Q : Int32 → jI → jL → Prop) => Q _ _ _) (GO.leafI ag h)
        · skip
          unfold f_X12_sum_b31 at h ⊢
          try rw [ag.2.2 24 (by decide)]
          try rw [ag.2.2 25 (by decide)]
          try rw [ag.2.2 26 (by decide)]
          try rw [ag.2.2 27 (by decide)]
          try rw [ag.2.2 31 (by decide)]
          try rw [ag.2.2 32 (by decide)]
          try rw [ag.2.2 33 (by decide)]
          try rw [ag.2.2 34 (by decide)]
          refine GO.callP (t_X12_here ag h) (fun r h => ?_)
          try rw [ag.2.2 24 (by decide)]
          try rw [ag.2.2 25 (by decide)]
          try rw [ag.2.2 26 (by decide)]
          try rw [ag.2.2 27 (by decide)]
          try rw [ag.2.2 31 (by decide)]
          try rw [ag.2.2 32 (by decide)]
          try rw [ag.2.2 33 (by decide)]
          try rw [ag.2.2 34 (by decide)]
          refine GO.itn h (fun c h => ?_) (fun c h => ?_)
          · skip
            unfold f_X12_sum_b45 at h ⊢
            try rw [ag.2.2 24 (by decide)]
            try rw [ag.2.2 25 (by decide)]
            try rw [ag.2.2 26 (by decide)]
            try rw [ag.2.2 27 (by decide)]
            try rw [ag.2.2 31 (by decide)]
            try rw [ag.2.2 32 (by decide)]
            try rw [ag.2.2 33 (by decide)]
            try rw [ag.2.2 34 (by decide)]
            refine GO.put ag h (fun I J ag h => ?_)
            try rw [ag.2.2 24 (by decide)]
            try rw [ag.2.2 25 (by decide)]
            try rw [ag.2.2 26 (by decide)]
            try rw [ag.2.2 27 (by decide)]
            try rw [ag.2.2 31 (by decide)]
            try rw [ag.2.2 32 (by decide)]
            try rw [ag.2.2 33 (by decide)]
            try rw [ag.2.2 34 (by decide)]
            refine GO.callI (hF 2 (by decide) ag h) (fun r I L J M ag h => ?_)
            try rw [ag.2.2 24 (by decide)]
            try rw [ag.2.2 25 (by decide)]
            try rw [ag.2.2 26 (by decide)]
            try rw [ag.2.2 27 (by decide)]
            try rw [ag.2.2 31 (by decide)]
            try rw [ag.2.2 32 (by decide)]
            try rw [ag.2.2 33 (by decide)]
            try rw [ag.2.2 34 (by decide)]
            refine GO.ite h (fun c h => ?_) (fun c h => ?_)
            · skip
              unfold f_X12_sum_b78 at h ⊢
              try rw [ag.2.2 24 (by decide)]
              try rw [ag.2.2 25 (by decide)]
              try rw [ag.2.2 26 (by decide)]
              try rw [ag.2.2 27 (by decide)]
              try rw [ag.2.2 31 (by decide)]
              try rw [ag.2.2 32 (by decide)]
              try rw [ag.2.2 33 (by decide)]
              try rw [ag.2.2 34 (by decide)]
              have g9 := GO.back (ih ag h)
              exact g9
            · skip
              unfold f_X12_sum_b78 at h ⊢
              try rw [ag.2.2 24 (by decide)]
              try rw [ag.2.2 25 (by decide)]
              try rw [ag.2.2 26 (by decide)]
              try rw [ag.2.2 27 (by decide)]
              try rw [ag.2.2 31 (by decide)]
              try rw [ag.2.2 32 (by decide)]
              try rw [ag.2.2 33 (by decide)]
              try rw [ag.2.2 34 (by decide)]
              have g9 := GO.back (ih ag h)
              exact g9
          · skip
            unfold f_X12_sum_b45 at h ⊢
            try rw [ag.2.2 24 (by decide)]
            try rw [ag.2.2 25 (by decide)]
            try rw [ag.2.2 26 (by decide)]
            try rw [ag.2.2 27 (by decide)]
            try rw [ag.2.2 31 (by decide)]
            try rw [ag.2.2 32 (by decide)]
            try rw [ag.2.2 33 (by decide)]
            try rw [ag.2.2 34 (by decide)]
            refine GO.put ag h (fun I J ag h => ?_)
            try rw [ag.2.2 24 (by decide)]
            try rw [ag.2.2 25 (by decide)]
            try rw [ag.2.2 26 (by decide)]
            try rw [ag.2.2 27 (by decide)]
            try rw [ag.2.2 31 (by decide)]
            try rw [ag.2.2 32 (by decide)]
            try rw [ag.2.2 33 (by decide)]
            try rw [ag.2.2 34 (by decide)]
            refine GO.callI (hF 2 (by decide) ag h) (fun r I L J M ag h => ?_)
            try rw [ag.2.2 24 (by decide)]
            try rw [ag.2.2 25 (by decide)]
            try rw [ag.2.2 26 (by decide)]
            try rw [ag.2.2 27 (by decide)]
            try rw [ag.2.2 31 (by decide)]
            try rw [ag.2.2 32 (by decide)]
            try rw [ag.2.2 33 (by decide)]
            try rw [ag.2.2 34 (by decide)]
            refine GO.ite h (fun c h => ?_) (fun c h => ?_)
            · skip
              unfold f_X12_sum_b78 at h ⊢
              try rw [ag.2.2 24 (by decide)]
              try rw [ag.2.2 25 (by decide)]
              try rw [ag.2.2 26 (by decide)]
              try rw [ag.2.2 27 (by decide)]
              try rw [ag.2.2 31 (by decide)]
              try rw [ag.2.2 32 (by decide)]
              try rw [ag.2.2 33 (by decide)]
              try rw [ag.2.2 34 (by decide)]
              have g9 := GO.back (ih ag h)
              exact g9
            · skip
              unfold f_X12_sum_b78 at h ⊢
              try rw [ag.2.2 24 (by decide)]
              try rw [ag.2.2 25 (by decide)]
              try rw [ag.2.2 26 (by decide)]
              try rw [ag.2.2 27 (by decide)]
              try rw [ag.2.2 31 (by decide)]
              try rw [ag.2.2 32 (by decide)]
              try rw [ag.2.2 33 (by decide)]
              try rw [ag.2.2 34 (by decide)]
              have g9 := GO.back (ih ag h)
              exact g9
set_option maxHeartbeats 4000000 in
set_option maxRecDepth 100000 in
theorem t_X12_sum {F : FTR12} (hF : HT F) {E : Prop} {v0 : Nat} {v1 : Int32} {Z : jZ} {I : jI} {L : jL} {ZJ : jZ} {J : jI} {M : jL} {A : Int32 → jI → jL → Prop} (ag : A1 E v0 Z I L ZJ J M) (h : f_X12_sum F v0 v1 Z I L A) : GO (OKI (fun I L J M => A1 E v0 Z I L ZJ J M) A) (fun Q => f_X12_sum F v0 v1 ZJ J M Q) := by
  unfold f_X12_sum at h ⊢
  try rw [ag.2.2 24 (by decide)]
  try rw [ag.2.2 25 (by decide)]
  try rw [ag.2.2 26 (by decide)]
  try rw [ag.2.2 27 (by decide)]
  try rw [ag.2.2 31 (by decide)]
  try rw [ag.2.2 32 (by decide)]
  try rw [ag.2.2 33 (by decide)]
  try rw [ag.2.2 34 (by decide)]
  refine GO.callI (hF 2 (by decide) ag h) (fun r I L J M ag h => ?_)
  try rw [ag.2.2 24 (by decide)]
  try rw [ag.2.2 25 (by decide)]
  try rw [ag.2.2 26 (by decide)]
  try rw [ag.2.2 27 (by decide)]
  try rw [ag.2.2 31 (by decide)]
  try rw [ag.2.2 32 (by decide)]
  try rw [ag.2.2 33 (by decide)]
  try rw [ag.2.2 34 (by decide)]
  obtain ⟨n9, h⟩ := h
  exact tl_X12_sum_L6 hF n9 ag h
set_option maxHeartbeats 4000000 in
set_option maxRecDepth 100000 in
theorem tl_X12_product_L6 {F : FTR12} (hF : HT F) {E : Prop} {v0 : Nat} {Z ZJ : jZ} {A : Int32 → jI → jL → Prop} : ∀ (n : Nat) {v1 : Int32} {v2 : Int32} {I : jI} {L : jL} {J : jI} {M : jL}, A1 E v0 Z I L ZJ J M → f_X12_product_L6 F Z A n v0 v1 v2 I L → GO (OKI (fun I L J M => A1 E v0 Z I L ZJ J M) A) (fun Q => ∃ m, f_X12_product_L6 F ZJ Q m v0 v1 v2 J M) := by
  intro n
  induction n with
  | zero => intro v1 v2 I L J M ag h; exact h.elim
  | succ n ih =>
    intro v1 v2 I L J M ag h
    refine GO.loop (Bm := fun m Q => f_X12_product_L6 F ZJ Q m v0 v1 v2 J M) (fun _ h => h) ?_
    show GO _ (fun q : (Int32 → jI → jL → Prop) × Nat => f_X12_product_L6 F ZJ q.1 (q.2 + 1) v0 v1 v2 J M)
    unfold f_X12_product_L6 at h ⊢
    try rw [ag.2.2 24 (by decide)]
    try rw [ag.2.2 25 (by decide)]
    try rw [ag.2.2 26 (by decide)]
    try rw [ag.2.2 27 (by decide)]
    try rw [ag.2.2 31 (by decide)]
    try rw [ag.2.2 32 (by decide)]
    try rw [ag.2.2 33 (by decide)]
    try rw [ag.2.2 34 (by decide)]
    refine GO.callP (t_X12_fine ag h) (fun r h => ?_)
    try rw [ag.2.2 24 (by decide)]
    try rw [ag.2.2 25 (by decide)]
    try rw [ag.2.2 26 (by decide)]
    try rw [ag.2.2 27 (by decide)]
    try rw [ag.2.2 31 (by decide)]
    try rw [ag.2.2 32 (by decide)]
    try rw [ag.2.2 33 (by decide)]
    try rw [ag.2.2 34 (by decide)]
    refine GO.ite h (fun c h => ?_) (fun c h => ?_)
    · skip
      exact GO.leafB (B := fun (Q : Int32 → jI → jL → Prop) => Q _ _ _) (GO.leafI ag h)
    · skip
      refine GO.callP (t_X12_here ag h) (fun r h => ?_)
      try rw [ag.2.2 24 (by decide)]
      try rw [ag.2.2 25 (by decide)]
      try rw [ag.2.2 26 (by decide)]
      try rw [ag.2.2 27 (by decide)]
      try rw [ag.2.2 31 (by decide)]
      try rw [ag.2.2 32 (by decide)]
      try rw [ag.2.2 33 (by decide)]
      try rw [ag.2.2 34 (by decide)]
      refine GO.ite h (fun c h => ?_) (fun c h => ?_)
      · skip
        unfold f_X12_product_b31 at h ⊢
        try rw [ag.2.2 24 (by decide)]
        try rw [ag.2.2 25 (by decide)]
        try rw [ag.2.2 26 (by decide)]
        try rw [ag.2.2 27 (by decide)]
        try rw [ag.2.2 31 (by decide)]
        try rw [ag.2.2 32 (by decide)]
        try rw [ag.2.2 33 (by decide)]
        try rw [ag.2.2 34 (by decide)]
        refine GO.callP (t_X12_here ag h) (fun r h => ?_)
        try rw [ag.2.2 24 (by decide)]
        try rw [ag.2.2 25 (by decide)]
        try rw [ag.2.2 26 (by decide)]
        try rw [ag.2.2 27 (by decide)]
        try rw [ag.2.2 31 (by decide)]
        try rw [ag.2.2 32 (by decide)]
        try rw [ag.2.2 33 (by decide)]
        try rw [ag.2.2 34 (by decide)]
        refine GO.itn h (fun c h => ?_) (fun c h => ?_)
        · skip
          unfold f_X12_product_b45 at h ⊢
          try rw [ag.2.2 24 (by decide)]
          try rw [ag.2.2 25 (by decide)]
          try rw [ag.2.2 26 (by decide)]
          try rw [ag.2.2 27 (by decide)]
          try rw [ag.2.2 31 (by decide)]
          try rw [ag.2.2 32 (by decide)]
          try rw [ag.2.2 33 (by decide)]
          try rw [ag.2.2 34 (by decide)]
          refine GO.put ag h (fun I J ag h => ?_)
          try rw [ag.2.2 24 (by decide)]
          try rw [ag.2.2 25 (by decide)]
          try rw [ag.2.2 26 (by decide)]
          try rw [ag.2.2 27 (by decide)]
          try rw [ag.2.2 31 (by decide)]
          try rw [ag.2.2 32 (by decide)]
          try rw [ag.2.2 33 (by decide)]
          try rw [ag.2.2 34 (by decide)]
          refine GO.callI (hF 3 (by decide) ag h) (fun r I L J M ag h => ?_)
          try rw [ag.2.2 24 (by decide)]
          try rw [ag.2.2 25 (by decide)]
          try rw [ag.2.2 26 (by decide)]
          try rw [ag.2.2 27 (by decide)]
          try rw [ag.2.2 31 (by decide)]
          try rw [ag.2.2 32 (by decide)]
          try rw [ag.2.2 33 (by decide)]
          try rw [ag.2.2 34 (by decide)]
          refine GO.ite h (fun c h => ?_) (fun c h => ?_)
          · skip
            refine GO.itn h (fun c h => ?_) (fun c h => ?_)
            · skip
              refine GO.ob h (fun o h => ?_)
              unfold f_X12_product_b87 at h ⊢
              try rw [ag.2.2 24 (by decide)]
              try rw [ag.2.2 25 (by decide)]
              try rw [ag.2.2 26 (by decide)]
              try rw [ag.2.2 27 (by decide)]
              try rw [ag.2.2 31 (by decide)]
              try rw [ag.2.2 32 (by decide)]
              try rw [ag.2.2 33 (by decide)]
              try rw [ag.2.2 34 (by decide)]
              have g9 := GO.back (ih ag h)
              exact g9
            · skip
              unfold f_X12_product_b87 at h ⊢
              try rw [ag.2.2 24 (by decide)]
              try rw [ag.2.2 25 (by decide)]
              try rw [ag.2.2 26 (by decide)]
              try rw [ag.2.2 27 (by decide)]
              try rw [ag.2.2 31 (by decide)]
              try rw [ag.2.2 32 (by decide)]
              try rw [ag.2.2 33 (by decide)]
              try rw [ag.2.2 34 (by decide)]
              have g9 := GO.back (ih ag h)
              exact g9
          · skip
            unfold f_X12_product_b87 at h ⊢
            try rw [ag.2.2 24 (by decide)]
            try rw [ag.2.2 25 (by decide)]
            try rw [ag.2.2 26 (by decide)]
            try rw [ag.2.2 27 (by decide)]
            try rw [ag.2.2 31 (by decide)]
            try rw [ag.2.2 32 (by decide)]
            try rw [ag.2.2 33 (by decide)]
            try rw [ag.2.2 34 (by decide)]
            have g9 := GO.back (ih ag h)
            exact g9
        · skip
          unfold f_X12_product_b45 at h ⊢
          try rw [ag.2.2 24 (by decide)]
          try rw [ag.2.2 25 (by decide)]
          try rw [ag.2.2 26 (by decide)]
          try rw [ag.2.2 27 (by decide)]
          try rw [ag.2.2 31 (by decide)]
          try rw [ag.2.2 32 (by decide)]
          try rw [ag.2.2 33 (by decide)]
          try rw [ag.2.2 34 (by decide)]
          refine GO.put ag h (fun I J ag h => ?_)
          try rw [ag.2.2 24 (by decide)]
          try rw [ag.2.2 25 (by decide)]
          try rw [ag.2.2 26 (by decide)]
          try rw [ag.2.2 27 (by decide)]
          try rw [ag.2.2 31 (by decide)]
          try rw [ag.2.2 32 (by decide)]
          try rw [ag.2.2 33 (by decide)]
          try rw [ag.2.2 34 (by decide)]
          refine GO.callI (hF 3 (by decide) ag h) (fun r I L J M ag h => ?_)
          try rw [ag.2.2 24 (by decide)]
          try rw [ag.2.2 25 (by decide)]
          try rw [ag.2.2 26 (by decide)]
          try rw [ag.2.2 27 (by decide)]
          try rw [ag.2.2 31 (by decide)]
          try rw [ag.2.2 32 (by decide)]
          try rw [ag.2.2 33 (by decide)]
          try rw [ag.2.2 34 (by decide)]
          refine GO.ite h (fun c h => ?_) (fun c h => ?_)
          · skip
            refine GO.itn h (fun c h => ?_) (fun c h => ?_)
            · skip
              refine GO.ob h (fun o h => ?_)
              unfold f_X12_product_b87 at h ⊢
              try rw [ag.2.2 24 (by decide)]
              try rw [ag.2.2 25 (by decide)]
              try rw [ag.2.2 26 (by decide)]
              try rw [ag.2.2 27 (by decide)]
              try rw [ag.2.2 31 (by decide)]
              try rw [ag.2.2 32 (by decide)]
              try rw [ag.2.2 33 (by decide)]
              try rw [ag.2.2 34 (by decide)]
              have g9 := GO.back (ih ag h)
              exact g9
            · skip
              unfold f_X12_product_b87 at h ⊢
              try rw [ag.2.2 24 (by decide)]
              try rw [ag.2.2 25 (by decide)]
              try rw [ag.2.2 26 (by decide)]
              try rw [ag.2.2 27 (by decide)]
              try rw [ag.2.2 31 (by decide)]
              try rw [ag.2.2 32 (by decide)]
              try rw [ag.2.2 33 (by decide)]
              try rw [ag.2.2 34 (by decide)]
              have g9 := GO.back (ih ag h)
              exact g9
          · skip
            unfold f_X12_product_b87 at h ⊢
            try rw [ag.2.2 24 (by decide)]
            try rw [ag.2.2 25 (by decide)]
            try rw [ag.2.2 26 (by decide)]
            try rw [ag.2.2 27 (by decide)]
            try rw [ag.2.2 31 (by decide)]
            try rw [ag.2.2 32 (by decide)]
            try rw [ag.2.2 33 (by decide)]
            try rw [ag.2.2 34 (by decide)]
            have g9 := GO.back (ih ag h)
            exact g9
      · skip
        refine GO.callP (t_X12_here ag h) (fun r h => ?_)
        try rw [ag.2.2 24 (by decide)]
        try rw [ag.2.2 25 (by decide)]
        try rw [ag.2.2 26 (by decide)]
        try rw [ag.2.2 27 (by decide)]
        try rw [ag.2.2 31 (by decide)]
        try rw [ag.2.2 32 (by decide)]
        try rw [ag.2.2 33 (by decide)]
        try rw [ag.2.2 34 (by decide)]
        refine GO.itn h (fun c h => ?_) (fun c h => ?_)
        · skip
          exact GO.leafB (B := fun (Q : Int32 → jI → jL → Prop) => Q _ _ _) (GO.leafI ag h)
        · skip
          unfold f_X12_product_b31 at h ⊢
          try rw [ag.2.2 24 (by decide)]
          try rw [ag.2.2 25 (by decide)]
          try rw [ag.2.2 26 (by decide)]
          try rw [ag.2.2 27 (by decide)]
          try rw [ag.2.2 31 (by decide)]
          try rw [ag.2.2 32 (by decide)]
          try rw [ag.2.2 33 (by decide)]
          try rw [ag.2.2 34 (by decide)]
          refine GO.callP (t_X12_here ag h) (fun r h => ?_)
          try rw [ag.2.2 24 (by decide)]
          try rw [ag.2.2 25 (by decide)]
          try rw [ag.2.2 26 (by decide)]
          try rw [ag.2.2 27 (by decide)]
          try rw [ag.2.2 31 (by decide)]
          try rw [ag.2.2 32 (by decide)]
          try rw [ag.2.2 33 (by decide)]
          try rw [ag.2.2 34 (by decide)]
          refine GO.itn h (fun c h => ?_) (fun c h => ?_)
          · skip
            unfold f_X12_product_b45 at h ⊢
            try rw [ag.2.2 24 (by decide)]
            try rw [ag.2.2 25 (by decide)]
            try rw [ag.2.2 26 (by decide)]
            try rw [ag.2.2 27 (by decide)]
            try rw [ag.2.2 31 (by decide)]
            try rw [ag.2.2 32 (by decide)]
            try rw [ag.2.2 33 (by decide)]
            try rw [ag.2.2 34 (by decide)]
            refine GO.put ag h (fun I J ag h => ?_)
            try rw [ag.2.2 24 (by decide)]
            try rw [ag.2.2 25 (by decide)]
            try rw [ag.2.2 26 (by decide)]
            try rw [ag.2.2 27 (by decide)]
            try rw [ag.2.2 31 (by decide)]
            try rw [ag.2.2 32 (by decide)]
            try rw [ag.2.2 33 (by decide)]
            try rw [ag.2.2 34 (by decide)]
            refine GO.callI (hF 3 (by decide) ag h) (fun r I L J M ag h => ?_)
            try rw [ag.2.2 24 (by decide)]
            try rw [ag.2.2 25 (by decide)]
            try rw [ag.2.2 26 (by decide)]
            try rw [ag.2.2 27 (by decide)]
            try rw [ag.2.2 31 (by decide)]
            try rw [ag.2.2 32 (by decide)]
            try rw [ag.2.2 33 (by decide)]
            try rw [ag.2.2 34 (by decide)]
            refine GO.ite h (fun c h => ?_) (fun c h => ?_)
            · skip
              refine GO.itn h (fun c h => ?_) (fun c h => ?_)
              · skip
                refine GO.ob h (fun o h => ?_)
                unfold f_X12_product_b87 at h ⊢
                try rw [ag.2.2 24 (by decide)]
                try rw [ag.2.2 25 (by decide)]
                try rw [ag.2.2 26 (by decide)]
                try rw [ag.2.2 27 (by decide)]
                try rw [ag.2.2 31 (by decide)]
                try rw [ag.2.2 32 (by decide)]
                try rw [ag.2.2 33 (by decide)]
                try rw [ag.2.2 34 (by decide)]
                have g9 := GO.back (ih ag h)
                exact g9
              · skip
                unfold f_X12_product_b87 at h ⊢
                try rw [ag.2.2 24 (by decide)]
                try rw [ag.2.2 25 (by decide)]
                try rw [ag.2.2 26 (by decide)]
                try rw [ag.2.2 27 (by decide)]
                try rw [ag.2.2 31 (by decide)]
                try rw [ag.2.2 32 (by decide)]
                try rw [ag.2.2 33 (by decide)]
                try rw [ag.2.2 34 (by decide)]
                have g9 := GO.back (ih ag h)
                exact g9
            · skip
              unfold f_X12_product_b87 at h ⊢
              try rw [ag.2.2 24 (by decide)]
              try rw [ag.2.2 25 (by decide)]
              try rw [ag.2.2 26 (by decide)]
              try rw [ag.2.2 27 (by decide)]
              try rw [ag.2.2 31 (by decide)]
              try rw [ag.2.2 32 (by decide)]
              try rw [ag.2.2 33 (by decide)]
              try rw [ag.2.2 34 (by decide)]
              have g9 := GO.back (ih ag h)
              exact g9
          · skip
            unfold f_X12_product_b45 at h ⊢
            try rw [ag.2.2 24 (by decide)]
            try rw [ag.2.2 25 (by decide)]
            try rw [ag.2.2 26 (by decide)]
            try rw [ag.2.2 27 (by decide)]
            try rw [ag.2.2 31 (by decide)]
            try rw [ag.2.2 32 (by decide)]
            try rw [ag.2.2 33 (by decide)]
            try rw [ag.2.2 34 (by decide)]
            refine GO.put ag h (fun I J ag h => ?_)
            try rw [ag.2.2 24 (by decide)]
            try rw [ag.2.2 25 (by decide)]
            try rw [ag.2.2 26 (by decide)]
            try rw [ag.2.2 27 (by decide)]
            try rw [ag.2.2 31 (by decide)]
            try rw [ag.2.2 32 (by decide)]
            try rw [ag.2.2 33 (by decide)]
            try rw [ag.2.2 34 (by decide)]
            refine GO.callI (hF 3 (by decide) ag h) (fun r I L J M ag h => ?_)
            try rw [ag.2.2 24 (by decide)]
            try rw [ag.2.2 25 (by decide)]
            try rw [ag.2.2 26 (by decide)]
            try rw [ag.2.2 27 (by decide)]
            try rw [ag.2.2 31 (by decide)]
            try rw [ag.2.2 32 (by decide)]
            try rw [ag.2.2 33 (by decide)]
            try rw [ag.2.2 34 (by decide)]
            refine GO.ite h (fun c h => ?_) (fun c h => ?_)
            · skip
              refine GO.itn h (fun c h => ?_) (fun c h => ?_)
              · skip
                refine GO.ob h (fun o h => ?_)
                unfold f_X12_product_b87 at h ⊢
                try rw [ag.2.2 24 (by decide)]
                try rw [ag.2.2 25 (by decide)]
                try rw [ag.2.2 26 (by decide)]
                try rw [ag.2.2 27 (by decide)]
                try rw [ag.2.2 31 (by decide)]
                try rw [ag.2.2 32 (by decide)]
                try rw [ag.2.2 33 (by decide)]
                try rw [ag.2.2 34 (by decide)]
                have g9 := GO.back (ih ag h)
                exact g9
              · skip
                unfold f_X12_product_b87 at h ⊢
                try rw [ag.2.2 24 (by decide)]
                try rw [ag.2.2 25 (by decide)]
                try rw [ag.2.2 26 (by decide)]
                try rw [ag.2.2 27 (by decide)]
                try rw [ag.2.2 31 (by decide)]
                try rw [ag.2.2 32 (by decide)]
                try rw [ag.2.2 33 (by decide)]
                try rw [ag.2.2 34 (by decide)]
                have g9 := GO.back (ih ag h)
                exact g9
            · skip
              unfold f_X12_product_b87 at h ⊢
              try rw [ag.2.2 24 (by decide)]
              try rw [ag.2.2 25 (by decide)]
              try rw [ag.2.2 26 (by decide)]
              try rw [ag.2.2 27 (by decide)]
              try rw [ag.2.2 31 (by decide)]
              try rw [ag.2.2 32 (by decide)]
              try rw [ag.2.2 33 (by decide)]
              try rw [ag.2.2 34 (by decide)]
              have g9 := GO.back (ih ag h)
              exact g9
set_option maxHeartbeats 4000000 in
set_option maxRecDepth 100000 in
theorem t_X12_product {F : FTR12} (hF : HT F) {E : Prop} {v0 : Nat} {v1 : Int32} {Z : jZ} {I : jI} {L : jL} {ZJ : jZ} {J : jI} {M : jL} {A : Int32 → jI → jL → Prop} (ag : A1 E v0 Z I L ZJ J M) (h : f_X12_product F v0 v1 Z I L A) : GO (OKI (fun I L J M => A1 E v0 Z I L ZJ J M) A) (fun Q => f_X12_product F v0 v1 ZJ J M Q) := by
  unfold f_X12_product at h ⊢
  try rw [ag.2.2 24 (by decide)]
  try rw [ag.2.2 25 (by decide)]
  try rw [ag.2.2 26 (by decide)]
  try rw [ag.2.2 27 (by decide)]
  try rw [ag.2.2 31 (by decide)]
  try rw [ag.2.2 32 (by decide)]
  try rw [ag.2.2 33 (by decide)]
  try rw [ag.2.2 34 (by decide)]
  refine GO.callI (hF 3 (by decide) ag h) (fun r I L J M ag h => ?_)
  try rw [ag.2.2 24 (by decide)]
  try rw [ag.2.2 25 (by decide)]
  try rw [ag.2.2 26 (by decide)]
  try rw [ag.2.2 27 (by decide)]
  try rw [ag.2.2 31 (by decide)]
  try rw [ag.2.2 32 (by decide)]
  try rw [ag.2.2 33 (by decide)]
  try rw [ag.2.2 34 (by decide)]
  obtain ⟨n9, h⟩ := h
  exact tl_X12_product_L6 hF n9 ag h
set_option maxHeartbeats 4000000 in
set_option maxRecDepth 100000 in
theorem t_X12_thing {F : FTR12} (hF : HT F) {E : Prop} {v0 : Nat} {v1 : Int32} {Z : jZ} {I : jI} {L : jL} {ZJ : jZ} {J : jI} {M : jL} {A : Int32 → jI → jL → Prop} (ag : A1 E v0 Z I L ZJ J M) (h : f_X12_thing F v0 v1 Z I L A) : GO (OKI (fun I L J M => A1 E v0 Z I L ZJ J M) A) (fun Q => f_X12_thing F v0 v1 ZJ J M Q) := by
  unfold f_X12_thing at h ⊢
  try rw [ag.2.2 24 (by decide)]
  try rw [ag.2.2 25 (by decide)]
  try rw [ag.2.2 26 (by decide)]
  try rw [ag.2.2 27 (by decide)]
  try rw [ag.2.2 31 (by decide)]
  try rw [ag.2.2 32 (by decide)]
  try rw [ag.2.2 33 (by decide)]
  try rw [ag.2.2 34 (by decide)]
  refine GO.callI (t_X12_passes ag h) (fun r I L J M ag h => ?_)
  try rw [ag.2.2 24 (by decide)]
  try rw [ag.2.2 25 (by decide)]
  try rw [ag.2.2 26 (by decide)]
  try rw [ag.2.2 27 (by decide)]
  try rw [ag.2.2 31 (by decide)]
  try rw [ag.2.2 32 (by decide)]
  try rw [ag.2.2 33 (by decide)]
  try rw [ag.2.2 34 (by decide)]
  refine GO.ite h (fun c h => ?_) (fun c h => ?_)
  · skip
    refine GO.callP (t_X12_fine ag h) (fun r h => ?_)
    try rw [ag.2.2 24 (by decide)]
    try rw [ag.2.2 25 (by decide)]
    try rw [ag.2.2 26 (by decide)]
    try rw [ag.2.2 27 (by decide)]
    try rw [ag.2.2 31 (by decide)]
    try rw [ag.2.2 32 (by decide)]
    try rw [ag.2.2 33 (by decide)]
    try rw [ag.2.2 34 (by decide)]
    refine GO.itn h (fun c h => ?_) (fun c h => ?_)
    · skip
      refine GO.callP (t_X12_here ag h) (fun r h => ?_)
      try rw [ag.2.2 24 (by decide)]
      try rw [ag.2.2 25 (by decide)]
      try rw [ag.2.2 26 (by decide)]
      try rw [ag.2.2 27 (by decide)]
      try rw [ag.2.2 31 (by decide)]
      try rw [ag.2.2 32 (by decide)]
      try rw [ag.2.2 33 (by decide)]
      try rw [ag.2.2 34 (by decide)]
      refine GO.itn h (fun c h => ?_) (fun c h => ?_)
      · skip
        unfold f_X12_thing_b67 at h ⊢
        try rw [ag.2.2 24 (by decide)]
        try rw [ag.2.2 25 (by decide)]
        try rw [ag.2.2 26 (by decide)]
        try rw [ag.2.2 27 (by decide)]
        try rw [ag.2.2 31 (by decide)]
        try rw [ag.2.2 32 (by decide)]
        try rw [ag.2.2 33 (by decide)]
        try rw [ag.2.2 34 (by decide)]
        refine GO.callP (t_X12_in ag h) (fun r h => ?_)
        try rw [ag.2.2 24 (by decide)]
        try rw [ag.2.2 25 (by decide)]
        try rw [ag.2.2 26 (by decide)]
        try rw [ag.2.2 27 (by decide)]
        try rw [ag.2.2 31 (by decide)]
        try rw [ag.2.2 32 (by decide)]
        try rw [ag.2.2 33 (by decide)]
        try rw [ag.2.2 34 (by decide)]
        refine GO.ite h (fun c h => ?_) (fun c h => ?_)
        · skip
          refine GO.ite h (fun c h => ?_) (fun c h => ?_)
          · skip
            unfold f_X12_thing_b140 at h ⊢
            try rw [ag.2.2 24 (by decide)]
            try rw [ag.2.2 25 (by decide)]
            try rw [ag.2.2 26 (by decide)]
            try rw [ag.2.2 27 (by decide)]
            try rw [ag.2.2 31 (by decide)]
            try rw [ag.2.2 32 (by decide)]
            try rw [ag.2.2 33 (by decide)]
            try rw [ag.2.2 34 (by decide)]
            refine GO.put ag h (fun I J ag h => ?_)
            try rw [ag.2.2 24 (by decide)]
            try rw [ag.2.2 25 (by decide)]
            try rw [ag.2.2 26 (by decide)]
            try rw [ag.2.2 27 (by decide)]
            try rw [ag.2.2 31 (by decide)]
            try rw [ag.2.2 32 (by decide)]
            try rw [ag.2.2 33 (by decide)]
            try rw [ag.2.2 34 (by decide)]
            refine GO.itn h (fun c h => ?_) (fun c h => ?_)
            · skip
              refine GO.callP (t_X12_letter ag h) (fun r h => ?_)
              try rw [ag.2.2 24 (by decide)]
              try rw [ag.2.2 25 (by decide)]
              try rw [ag.2.2 26 (by decide)]
              try rw [ag.2.2 27 (by decide)]
              try rw [ag.2.2 31 (by decide)]
              try rw [ag.2.2 32 (by decide)]
              try rw [ag.2.2 33 (by decide)]
              try rw [ag.2.2 34 (by decide)]
              exact GO.leafI ag h
            · skip
              exact GO.leafI ag h
          · skip
            refine GO.ite h (fun c h => ?_) (fun c h => ?_)
            · skip
              unfold f_X12_thing_b140 at h ⊢
              try rw [ag.2.2 24 (by decide)]
              try rw [ag.2.2 25 (by decide)]
              try rw [ag.2.2 26 (by decide)]
              try rw [ag.2.2 27 (by decide)]
              try rw [ag.2.2 31 (by decide)]
              try rw [ag.2.2 32 (by decide)]
              try rw [ag.2.2 33 (by decide)]
              try rw [ag.2.2 34 (by decide)]
              refine GO.put ag h (fun I J ag h => ?_)
              try rw [ag.2.2 24 (by decide)]
              try rw [ag.2.2 25 (by decide)]
              try rw [ag.2.2 26 (by decide)]
              try rw [ag.2.2 27 (by decide)]
              try rw [ag.2.2 31 (by decide)]
              try rw [ag.2.2 32 (by decide)]
              try rw [ag.2.2 33 (by decide)]
              try rw [ag.2.2 34 (by decide)]
              refine GO.itn h (fun c h => ?_) (fun c h => ?_)
              · skip
                refine GO.callP (t_X12_letter ag h) (fun r h => ?_)
                try rw [ag.2.2 24 (by decide)]
                try rw [ag.2.2 25 (by decide)]
                try rw [ag.2.2 26 (by decide)]
                try rw [ag.2.2 27 (by decide)]
                try rw [ag.2.2 31 (by decide)]
                try rw [ag.2.2 32 (by decide)]
                try rw [ag.2.2 33 (by decide)]
                try rw [ag.2.2 34 (by decide)]
                exact GO.leafI ag h
              · skip
                exact GO.leafI ag h
            · skip
              refine GO.ite h (fun c h => ?_) (fun c h => ?_)
              · skip
                unfold f_X12_thing_b140 at h ⊢
                try rw [ag.2.2 24 (by decide)]
                try rw [ag.2.2 25 (by decide)]
                try rw [ag.2.2 26 (by decide)]
                try rw [ag.2.2 27 (by decide)]
                try rw [ag.2.2 31 (by decide)]
                try rw [ag.2.2 32 (by decide)]
                try rw [ag.2.2 33 (by decide)]
                try rw [ag.2.2 34 (by decide)]
                refine GO.put ag h (fun I J ag h => ?_)
                try rw [ag.2.2 24 (by decide)]
                try rw [ag.2.2 25 (by decide)]
                try rw [ag.2.2 26 (by decide)]
                try rw [ag.2.2 27 (by decide)]
                try rw [ag.2.2 31 (by decide)]
                try rw [ag.2.2 32 (by decide)]
                try rw [ag.2.2 33 (by decide)]
                try rw [ag.2.2 34 (by decide)]
                refine GO.itn h (fun c h => ?_) (fun c h => ?_)
                · skip
                  refine GO.callP (t_X12_letter ag h) (fun r h => ?_)
                  try rw [ag.2.2 24 (by decide)]
                  try rw [ag.2.2 25 (by decide)]
                  try rw [ag.2.2 26 (by decide)]
                  try rw [ag.2.2 27 (by decide)]
                  try rw [ag.2.2 31 (by decide)]
                  try rw [ag.2.2 32 (by decide)]
                  try rw [ag.2.2 33 (by decide)]
                  try rw [ag.2.2 34 (by decide)]
                  exact GO.leafI ag h
                · skip
                  exact GO.leafI ag h
              · skip
                refine GO.ite h (fun c h => ?_) (fun c h => ?_)
                · skip
                  unfold f_X12_thing_b140 at h ⊢
                  try rw [ag.2.2 24 (by decide)]
                  try rw [ag.2.2 25 (by decide)]
                  try rw [ag.2.2 26 (by decide)]
                  try rw [ag.2.2 27 (by decide)]
                  try rw [ag.2.2 31 (by decide)]
                  try rw [ag.2.2 32 (by decide)]
                  try rw [ag.2.2 33 (by decide)]
                  try rw [ag.2.2 34 (by decide)]
                  refine GO.put ag h (fun I J ag h => ?_)
                  try rw [ag.2.2 24 (by decide)]
                  try rw [ag.2.2 25 (by decide)]
                  try rw [ag.2.2 26 (by decide)]
                  try rw [ag.2.2 27 (by decide)]
                  try rw [ag.2.2 31 (by decide)]
                  try rw [ag.2.2 32 (by decide)]
                  try rw [ag.2.2 33 (by decide)]
                  try rw [ag.2.2 34 (by decide)]
                  refine GO.itn h (fun c h => ?_) (fun c h => ?_)
                  · skip
                    refine GO.callP (t_X12_letter ag h) (fun r h => ?_)
                    try rw [ag.2.2 24 (by decide)]
                    try rw [ag.2.2 25 (by decide)]
                    try rw [ag.2.2 26 (by decide)]
                    try rw [ag.2.2 27 (by decide)]
                    try rw [ag.2.2 31 (by decide)]
                    try rw [ag.2.2 32 (by decide)]
                    try rw [ag.2.2 33 (by decide)]
                    try rw [ag.2.2 34 (by decide)]
                    exact GO.leafI ag h
                  · skip
                    exact GO.leafI ag h
                · skip
                  refine GO.ite h (fun c h => ?_) (fun c h => ?_)
                  · skip
                    unfold f_X12_thing_b140 at h ⊢
                    try rw [ag.2.2 24 (by decide)]
                    try rw [ag.2.2 25 (by decide)]
                    try rw [ag.2.2 26 (by decide)]
                    try rw [ag.2.2 27 (by decide)]
                    try rw [ag.2.2 31 (by decide)]
                    try rw [ag.2.2 32 (by decide)]
                    try rw [ag.2.2 33 (by decide)]
                    try rw [ag.2.2 34 (by decide)]
                    refine GO.put ag h (fun I J ag h => ?_)
                    try rw [ag.2.2 24 (by decide)]
                    try rw [ag.2.2 25 (by decide)]
                    try rw [ag.2.2 26 (by decide)]
                    try rw [ag.2.2 27 (by decide)]
                    try rw [ag.2.2 31 (by decide)]
                    try rw [ag.2.2 32 (by decide)]
                    try rw [ag.2.2 33 (by decide)]
                    try rw [ag.2.2 34 (by decide)]
                    refine GO.itn h (fun c h => ?_) (fun c h => ?_)
                    · skip
                      refine GO.callP (t_X12_letter ag h) (fun r h => ?_)
                      try rw [ag.2.2 24 (by decide)]
                      try rw [ag.2.2 25 (by decide)]
                      try rw [ag.2.2 26 (by decide)]
                      try rw [ag.2.2 27 (by decide)]
                      try rw [ag.2.2 31 (by decide)]
                      try rw [ag.2.2 32 (by decide)]
                      try rw [ag.2.2 33 (by decide)]
                      try rw [ag.2.2 34 (by decide)]
                      exact GO.leafI ag h
                    · skip
                      exact GO.leafI ag h
                  · skip
                    refine GO.ite h (fun c h => ?_) (fun c h => ?_)
                    · skip
                      unfold f_X12_thing_b140 at h ⊢
                      try rw [ag.2.2 24 (by decide)]
                      try rw [ag.2.2 25 (by decide)]
                      try rw [ag.2.2 26 (by decide)]
                      try rw [ag.2.2 27 (by decide)]
                      try rw [ag.2.2 31 (by decide)]
                      try rw [ag.2.2 32 (by decide)]
                      try rw [ag.2.2 33 (by decide)]
                      try rw [ag.2.2 34 (by decide)]
                      refine GO.put ag h (fun I J ag h => ?_)
                      try rw [ag.2.2 24 (by decide)]
                      try rw [ag.2.2 25 (by decide)]
                      try rw [ag.2.2 26 (by decide)]
                      try rw [ag.2.2 27 (by decide)]
                      try rw [ag.2.2 31 (by decide)]
                      try rw [ag.2.2 32 (by decide)]
                      try rw [ag.2.2 33 (by decide)]
                      try rw [ag.2.2 34 (by decide)]
                      refine GO.itn h (fun c h => ?_) (fun c h => ?_)
                      · skip
                        refine GO.callP (t_X12_letter ag h) (fun r h => ?_)
                        try rw [ag.2.2 24 (by decide)]
                        try rw [ag.2.2 25 (by decide)]
                        try rw [ag.2.2 26 (by decide)]
                        try rw [ag.2.2 27 (by decide)]
                        try rw [ag.2.2 31 (by decide)]
                        try rw [ag.2.2 32 (by decide)]
                        try rw [ag.2.2 33 (by decide)]
                        try rw [ag.2.2 34 (by decide)]
                        exact GO.leafI ag h
                      · skip
                        exact GO.leafI ag h
                    · skip
                      refine GO.ite h (fun c h => ?_) (fun c h => ?_)
                      · skip
                        unfold f_X12_thing_b140 at h ⊢
                        try rw [ag.2.2 24 (by decide)]
                        try rw [ag.2.2 25 (by decide)]
                        try rw [ag.2.2 26 (by decide)]
                        try rw [ag.2.2 27 (by decide)]
                        try rw [ag.2.2 31 (by decide)]
                        try rw [ag.2.2 32 (by decide)]
                        try rw [ag.2.2 33 (by decide)]
                        try rw [ag.2.2 34 (by decide)]
                        refine GO.put ag h (fun I J ag h => ?_)
                        try rw [ag.2.2 24 (by decide)]
                        try rw [ag.2.2 25 (by decide)]
                        try rw [ag.2.2 26 (by decide)]
                        try rw [ag.2.2 27 (by decide)]
                        try rw [ag.2.2 31 (by decide)]
                        try rw [ag.2.2 32 (by decide)]
                        try rw [ag.2.2 33 (by decide)]
                        try rw [ag.2.2 34 (by decide)]
                        refine GO.itn h (fun c h => ?_) (fun c h => ?_)
                        · skip
                          refine GO.callP (t_X12_letter ag h) (fun r h => ?_)
                          try rw [ag.2.2 24 (by decide)]
                          try rw [ag.2.2 25 (by decide)]
                          try rw [ag.2.2 26 (by decide)]
                          try rw [ag.2.2 27 (by decide)]
                          try rw [ag.2.2 31 (by decide)]
                          try rw [ag.2.2 32 (by decide)]
                          try rw [ag.2.2 33 (by decide)]
                          try rw [ag.2.2 34 (by decide)]
                          exact GO.leafI ag h
                        · skip
                          exact GO.leafI ag h
                      · skip
                        refine GO.callV (t_X12_fault ag h) (fun I L J M ag h => ?_)
                        try rw [ag.2.2 24 (by decide)]
                        try rw [ag.2.2 25 (by decide)]
                        try rw [ag.2.2 26 (by decide)]
                        try rw [ag.2.2 27 (by decide)]
                        try rw [ag.2.2 31 (by decide)]
                        try rw [ag.2.2 32 (by decide)]
                        try rw [ag.2.2 33 (by decide)]
                        try rw [ag.2.2 34 (by decide)]
                        exact GO.leafI ag h
        · skip
          refine GO.callI (t_X12_number ag h) (fun r I L J M ag h => ?_)
          try rw [ag.2.2 24 (by decide)]
          try rw [ag.2.2 25 (by decide)]
          try rw [ag.2.2 26 (by decide)]
          try rw [ag.2.2 27 (by decide)]
          try rw [ag.2.2 31 (by decide)]
          try rw [ag.2.2 32 (by decide)]
          try rw [ag.2.2 33 (by decide)]
          try rw [ag.2.2 34 (by decide)]
          exact GO.leafI ag h
      · skip
        refine GO.ite h (fun c h => ?_) (fun c h => ?_)
        · skip
          unfold f_X12_thing_b67 at h ⊢
          try rw [ag.2.2 24 (by decide)]
          try rw [ag.2.2 25 (by decide)]
          try rw [ag.2.2 26 (by decide)]
          try rw [ag.2.2 27 (by decide)]
          try rw [ag.2.2 31 (by decide)]
          try rw [ag.2.2 32 (by decide)]
          try rw [ag.2.2 33 (by decide)]
          try rw [ag.2.2 34 (by decide)]
          refine GO.callP (t_X12_in ag h) (fun r h => ?_)
          try rw [ag.2.2 24 (by decide)]
          try rw [ag.2.2 25 (by decide)]
          try rw [ag.2.2 26 (by decide)]
          try rw [ag.2.2 27 (by decide)]
          try rw [ag.2.2 31 (by decide)]
          try rw [ag.2.2 32 (by decide)]
          try rw [ag.2.2 33 (by decide)]
          try rw [ag.2.2 34 (by decide)]
          refine GO.ite h (fun c h => ?_) (fun c h => ?_)
          · skip
            refine GO.ite h (fun c h => ?_) (fun c h => ?_)
            · skip
              unfold f_X12_thing_b140 at h ⊢
              try rw [ag.2.2 24 (by decide)]
              try rw [ag.2.2 25 (by decide)]
              try rw [ag.2.2 26 (by decide)]
              try rw [ag.2.2 27 (by decide)]
              try rw [ag.2.2 31 (by decide)]
              try rw [ag.2.2 32 (by decide)]
              try rw [ag.2.2 33 (by decide)]
              try rw [ag.2.2 34 (by decide)]
              refine GO.put ag h (fun I J ag h => ?_)
              try rw [ag.2.2 24 (by decide)]
              try rw [ag.2.2 25 (by decide)]
              try rw [ag.2.2 26 (by decide)]
              try rw [ag.2.2 27 (by decide)]
              try rw [ag.2.2 31 (by decide)]
              try rw [ag.2.2 32 (by decide)]
              try rw [ag.2.2 33 (by decide)]
              try rw [ag.2.2 34 (by decide)]
              refine GO.itn h (fun c h => ?_) (fun c h => ?_)
              · skip
                refine GO.callP (t_X12_letter ag h) (fun r h => ?_)
                try rw [ag.2.2 24 (by decide)]
                try rw [ag.2.2 25 (by decide)]
                try rw [ag.2.2 26 (by decide)]
                try rw [ag.2.2 27 (by decide)]
                try rw [ag.2.2 31 (by decide)]
                try rw [ag.2.2 32 (by decide)]
                try rw [ag.2.2 33 (by decide)]
                try rw [ag.2.2 34 (by decide)]
                exact GO.leafI ag h
              · skip
                exact GO.leafI ag h
            · skip
              refine GO.ite h (fun c h => ?_) (fun c h => ?_)
              · skip
                unfold f_X12_thing_b140 at h ⊢
                try rw [ag.2.2 24 (by decide)]
                try rw [ag.2.2 25 (by decide)]
                try rw [ag.2.2 26 (by decide)]
                try rw [ag.2.2 27 (by decide)]
                try rw [ag.2.2 31 (by decide)]
                try rw [ag.2.2 32 (by decide)]
                try rw [ag.2.2 33 (by decide)]
                try rw [ag.2.2 34 (by decide)]
                refine GO.put ag h (fun I J ag h => ?_)
                try rw [ag.2.2 24 (by decide)]
                try rw [ag.2.2 25 (by decide)]
                try rw [ag.2.2 26 (by decide)]
                try rw [ag.2.2 27 (by decide)]
                try rw [ag.2.2 31 (by decide)]
                try rw [ag.2.2 32 (by decide)]
                try rw [ag.2.2 33 (by decide)]
                try rw [ag.2.2 34 (by decide)]
                refine GO.itn h (fun c h => ?_) (fun c h => ?_)
                · skip
                  refine GO.callP (t_X12_letter ag h) (fun r h => ?_)
                  try rw [ag.2.2 24 (by decide)]
                  try rw [ag.2.2 25 (by decide)]
                  try rw [ag.2.2 26 (by decide)]
                  try rw [ag.2.2 27 (by decide)]
                  try rw [ag.2.2 31 (by decide)]
                  try rw [ag.2.2 32 (by decide)]
                  try rw [ag.2.2 33 (by decide)]
                  try rw [ag.2.2 34 (by decide)]
                  exact GO.leafI ag h
                · skip
                  exact GO.leafI ag h
              · skip
                refine GO.ite h (fun c h => ?_) (fun c h => ?_)
                · skip
                  unfold f_X12_thing_b140 at h ⊢
                  try rw [ag.2.2 24 (by decide)]
                  try rw [ag.2.2 25 (by decide)]
                  try rw [ag.2.2 26 (by decide)]
                  try rw [ag.2.2 27 (by decide)]
                  try rw [ag.2.2 31 (by decide)]
                  try rw [ag.2.2 32 (by decide)]
                  try rw [ag.2.2 33 (by decide)]
                  try rw [ag.2.2 34 (by decide)]
                  refine GO.put ag h (fun I J ag h => ?_)
                  try rw [ag.2.2 24 (by decide)]
                  try rw [ag.2.2 25 (by decide)]
                  try rw [ag.2.2 26 (by decide)]
                  try rw [ag.2.2 27 (by decide)]
                  try rw [ag.2.2 31 (by decide)]
                  try rw [ag.2.2 32 (by decide)]
                  try rw [ag.2.2 33 (by decide)]
                  try rw [ag.2.2 34 (by decide)]
                  refine GO.itn h (fun c h => ?_) (fun c h => ?_)
                  · skip
                    refine GO.callP (t_X12_letter ag h) (fun r h => ?_)
                    try rw [ag.2.2 24 (by decide)]
                    try rw [ag.2.2 25 (by decide)]
                    try rw [ag.2.2 26 (by decide)]
                    try rw [ag.2.2 27 (by decide)]
                    try rw [ag.2.2 31 (by decide)]
                    try rw [ag.2.2 32 (by decide)]
                    try rw [ag.2.2 33 (by decide)]
                    try rw [ag.2.2 34 (by decide)]
                    exact GO.leafI ag h
                  · skip
                    exact GO.leafI ag h
                · skip
                  refine GO.ite h (fun c h => ?_) (fun c h => ?_)
                  · skip
                    unfold f_X12_thing_b140 at h ⊢
                    try rw [ag.2.2 24 (by decide)]
                    try rw [ag.2.2 25 (by decide)]
                    try rw [ag.2.2 26 (by decide)]
                    try rw [ag.2.2 27 (by decide)]
                    try rw [ag.2.2 31 (by decide)]
                    try rw [ag.2.2 32 (by decide)]
                    try rw [ag.2.2 33 (by decide)]
                    try rw [ag.2.2 34 (by decide)]
                    refine GO.put ag h (fun I J ag h => ?_)
                    try rw [ag.2.2 24 (by decide)]
                    try rw [ag.2.2 25 (by decide)]
                    try rw [ag.2.2 26 (by decide)]
                    try rw [ag.2.2 27 (by decide)]
                    try rw [ag.2.2 31 (by decide)]
                    try rw [ag.2.2 32 (by decide)]
                    try rw [ag.2.2 33 (by decide)]
                    try rw [ag.2.2 34 (by decide)]
                    refine GO.itn h (fun c h => ?_) (fun c h => ?_)
                    · skip
                      refine GO.callP (t_X12_letter ag h) (fun r h => ?_)
                      try rw [ag.2.2 24 (by decide)]
                      try rw [ag.2.2 25 (by decide)]
                      try rw [ag.2.2 26 (by decide)]
                      try rw [ag.2.2 27 (by decide)]
                      try rw [ag.2.2 31 (by decide)]
                      try rw [ag.2.2 32 (by decide)]
                      try rw [ag.2.2 33 (by decide)]
                      try rw [ag.2.2 34 (by decide)]
                      exact GO.leafI ag h
                    · skip
                      exact GO.leafI ag h
                  · skip
                    refine GO.ite h (fun c h => ?_) (fun c h => ?_)
                    · skip
                      unfold f_X12_thing_b140 at h ⊢
                      try rw [ag.2.2 24 (by decide)]
                      try rw [ag.2.2 25 (by decide)]
                      try rw [ag.2.2 26 (by decide)]
                      try rw [ag.2.2 27 (by decide)]
                      try rw [ag.2.2 31 (by decide)]
                      try rw [ag.2.2 32 (by decide)]
                      try rw [ag.2.2 33 (by decide)]
                      try rw [ag.2.2 34 (by decide)]
                      refine GO.put ag h (fun I J ag h => ?_)
                      try rw [ag.2.2 24 (by decide)]
                      try rw [ag.2.2 25 (by decide)]
                      try rw [ag.2.2 26 (by decide)]
                      try rw [ag.2.2 27 (by decide)]
                      try rw [ag.2.2 31 (by decide)]
                      try rw [ag.2.2 32 (by decide)]
                      try rw [ag.2.2 33 (by decide)]
                      try rw [ag.2.2 34 (by decide)]
                      refine GO.itn h (fun c h => ?_) (fun c h => ?_)
                      · skip
                        refine GO.callP (t_X12_letter ag h) (fun r h => ?_)
                        try rw [ag.2.2 24 (by decide)]
                        try rw [ag.2.2 25 (by decide)]
                        try rw [ag.2.2 26 (by decide)]
                        try rw [ag.2.2 27 (by decide)]
                        try rw [ag.2.2 31 (by decide)]
                        try rw [ag.2.2 32 (by decide)]
                        try rw [ag.2.2 33 (by decide)]
                        try rw [ag.2.2 34 (by decide)]
                        exact GO.leafI ag h
                      · skip
                        exact GO.leafI ag h
                    · skip
                      refine GO.ite h (fun c h => ?_) (fun c h => ?_)
                      · skip
                        unfold f_X12_thing_b140 at h ⊢
                        try rw [ag.2.2 24 (by decide)]
                        try rw [ag.2.2 25 (by decide)]
                        try rw [ag.2.2 26 (by decide)]
                        try rw [ag.2.2 27 (by decide)]
                        try rw [ag.2.2 31 (by decide)]
                        try rw [ag.2.2 32 (by decide)]
                        try rw [ag.2.2 33 (by decide)]
                        try rw [ag.2.2 34 (by decide)]
                        refine GO.put ag h (fun I J ag h => ?_)
                        try rw [ag.2.2 24 (by decide)]
                        try rw [ag.2.2 25 (by decide)]
                        try rw [ag.2.2 26 (by decide)]
                        try rw [ag.2.2 27 (by decide)]
                        try rw [ag.2.2 31 (by decide)]
                        try rw [ag.2.2 32 (by decide)]
                        try rw [ag.2.2 33 (by decide)]
                        try rw [ag.2.2 34 (by decide)]
                        refine GO.itn h (fun c h => ?_) (fun c h => ?_)
                        · skip
                          refine GO.callP (t_X12_letter ag h) (fun r h => ?_)
                          try rw [ag.2.2 24 (by decide)]
                          try rw [ag.2.2 25 (by decide)]
                          try rw [ag.2.2 26 (by decide)]
                          try rw [ag.2.2 27 (by decide)]
                          try rw [ag.2.2 31 (by decide)]
                          try rw [ag.2.2 32 (by decide)]
                          try rw [ag.2.2 33 (by decide)]
                          try rw [ag.2.2 34 (by decide)]
                          exact GO.leafI ag h
                        · skip
                          exact GO.leafI ag h
                      · skip
                        refine GO.ite h (fun c h => ?_) (fun c h => ?_)
                        · skip
                          unfold f_X12_thing_b140 at h ⊢
                          try rw [ag.2.2 24 (by decide)]
                          try rw [ag.2.2 25 (by decide)]
                          try rw [ag.2.2 26 (by decide)]
                          try rw [ag.2.2 27 (by decide)]
                          try rw [ag.2.2 31 (by decide)]
                          try rw [ag.2.2 32 (by decide)]
                          try rw [ag.2.2 33 (by decide)]
                          try rw [ag.2.2 34 (by decide)]
                          refine GO.put ag h (fun I J ag h => ?_)
                          try rw [ag.2.2 24 (by decide)]
                          try rw [ag.2.2 25 (by decide)]
                          try rw [ag.2.2 26 (by decide)]
                          try rw [ag.2.2 27 (by decide)]
                          try rw [ag.2.2 31 (by decide)]
                          try rw [ag.2.2 32 (by decide)]
                          try rw [ag.2.2 33 (by decide)]
                          try rw [ag.2.2 34 (by decide)]
                          refine GO.itn h (fun c h => ?_) (fun c h => ?_)
                          · skip
                            refine GO.callP (t_X12_letter ag h) (fun r h => ?_)
                            try rw [ag.2.2 24 (by decide)]
                            try rw [ag.2.2 25 (by decide)]
                            try rw [ag.2.2 26 (by decide)]
                            try rw [ag.2.2 27 (by decide)]
                            try rw [ag.2.2 31 (by decide)]
                            try rw [ag.2.2 32 (by decide)]
                            try rw [ag.2.2 33 (by decide)]
                            try rw [ag.2.2 34 (by decide)]
                            exact GO.leafI ag h
                          · skip
                            exact GO.leafI ag h
                        · skip
                          refine GO.callV (t_X12_fault ag h) (fun I L J M ag h => ?_)
                          try rw [ag.2.2 24 (by decide)]
                          try rw [ag.2.2 25 (by decide)]
                          try rw [ag.2.2 26 (by decide)]
                          try rw [ag.2.2 27 (by decide)]
                          try rw [ag.2.2 31 (by decide)]
                          try rw [ag.2.2 32 (by decide)]
                          try rw [ag.2.2 33 (by decide)]
                          try rw [ag.2.2 34 (by decide)]
                          exact GO.leafI ag h
          · skip
            refine GO.callI (t_X12_number ag h) (fun r I L J M ag h => ?_)
            try rw [ag.2.2 24 (by decide)]
            try rw [ag.2.2 25 (by decide)]
            try rw [ag.2.2 26 (by decide)]
            try rw [ag.2.2 27 (by decide)]
            try rw [ag.2.2 31 (by decide)]
            try rw [ag.2.2 32 (by decide)]
            try rw [ag.2.2 33 (by decide)]
            try rw [ag.2.2 34 (by decide)]
            exact GO.leafI ag h
        · skip
          refine GO.put ag h (fun I J ag h => ?_)
          try rw [ag.2.2 24 (by decide)]
          try rw [ag.2.2 25 (by decide)]
          try rw [ag.2.2 26 (by decide)]
          try rw [ag.2.2 27 (by decide)]
          try rw [ag.2.2 31 (by decide)]
          try rw [ag.2.2 32 (by decide)]
          try rw [ag.2.2 33 (by decide)]
          try rw [ag.2.2 34 (by decide)]
          refine GO.callI (hF 0 (by decide) ag h) (fun r I L J M ag h => ?_)
          try rw [ag.2.2 24 (by decide)]
          try rw [ag.2.2 25 (by decide)]
          try rw [ag.2.2 26 (by decide)]
          try rw [ag.2.2 27 (by decide)]
          try rw [ag.2.2 31 (by decide)]
          try rw [ag.2.2 32 (by decide)]
          try rw [ag.2.2 33 (by decide)]
          try rw [ag.2.2 34 (by decide)]
          refine GO.callV (t_X12_need ag h) (fun I L J M ag h => ?_)
          try rw [ag.2.2 24 (by decide)]
          try rw [ag.2.2 25 (by decide)]
          try rw [ag.2.2 26 (by decide)]
          try rw [ag.2.2 27 (by decide)]
          try rw [ag.2.2 31 (by decide)]
          try rw [ag.2.2 32 (by decide)]
          try rw [ag.2.2 33 (by decide)]
          try rw [ag.2.2 34 (by decide)]
          exact GO.leafI ag h
    · skip
      exact GO.leafI ag h
  · skip
    refine GO.callI (hF 3 (by decide) ag h) (fun r I L J M ag h => ?_)
    try rw [ag.2.2 24 (by decide)]
    try rw [ag.2.2 25 (by decide)]
    try rw [ag.2.2 26 (by decide)]
    try rw [ag.2.2 27 (by decide)]
    try rw [ag.2.2 31 (by decide)]
    try rw [ag.2.2 32 (by decide)]
    try rw [ag.2.2 33 (by decide)]
    try rw [ag.2.2 34 (by decide)]
    exact GO.leafI ag h
set_option maxHeartbeats 4000000 in
set_option maxRecDepth 100000 in
theorem tl_X12_effortOf_L8 {E : Prop} {v0 : Nat} {Z ZJ : jZ} {A : Int32 → jI → jL → Prop} : ∀ (n : Nat) {v1 : Int32} {v2 : Int32} {v3 : Int32} {v4 : Int32} {v5 : Int32} {I : jI} {L : jL} {J : jI} {M : jL}, A0 E v0 Z I L ZJ J M → f_X12_effortOf_L8 Z A n v0 v1 v2 v3 v4 v5 I L → GO (OKP A I L J M) (fun Q => ∃ m, f_X12_effortOf_L8 ZJ Q m v0 v1 v2 v3 v4 v5 J M) := by
  intro n
  induction n with
  | zero => intro v1 v2 v3 v4 v5 I L J M ag h; exact h.elim
  | succ n ih =>
    intro v1 v2 v3 v4 v5 I L J M ag h
    refine GO.loop (Bm := fun m Q => f_X12_effortOf_L8 ZJ Q m v0 v1 v2 v3 v4 v5 J M) (fun _ h => h) ?_
    show GO _ (fun q : (Int32 → jI → jL → Prop) × Nat => f_X12_effortOf_L8 ZJ q.1 (q.2 + 1) v0 v1 v2 v3 v4 v5 J M)
    unfold f_X12_effortOf_L8 at h ⊢
    refine GO.ite h (fun c h => ?_) (fun c h => ?_)
    · skip
      obtain ⟨b1, eb1, fb1, nb1, ab1⟩ := ag.2.1 12 (by decide)
      refine GO.ref eb1 fb1 h (fun h => ?_)
      try rw [ab1]
      refine GO.ob h (fun o h => ?_)
      obtain ⟨b2, eb2, fb2, nb2, ab2⟩ := ag.2.1 2 (by decide)
      refine GO.ref eb2 fb2 h (fun h => ?_)
      try rw [ab2]
      refine GO.ob h (fun o h => ?_)
      exact GO.leafB (B := fun (Q : Int32 → jI → jL → Prop) => Q _ _ _) (GO.leafP h)
    · skip
      obtain ⟨b3, eb3, fb3, nb3, ab3⟩ := ag.2.1 1 (by decide)
      refine GO.ref eb3 fb3 h (fun h => ?_)
      try rw [ab3]
      refine GO.ob h (fun o h => ?_)
      refine GO.eq h (fun h => ?_)
      refine GO.eq h (fun h => ?_)
      have g9 := GO.back (ih ag h)
      exact g9
set_option maxHeartbeats 4000000 in
set_option maxRecDepth 100000 in
theorem t_X12_effortOf {E : Prop} {v0 : Nat} {v1 : Int32} {v2 : Int32} {v3 : Int32} {Z : jZ} {I : jI} {L : jL} {ZJ : jZ} {J : jI} {M : jL} {A : Int32 → jI → jL → Prop} (ag : A0 E v0 Z I L ZJ J M) (h : f_X12_effortOf v0 v1 v2 v3 Z I L A) : GO (OKP A I L J M) (fun Q => f_X12_effortOf v0 v1 v2 v3 ZJ J M Q) := by
  unfold f_X12_effortOf at h ⊢
  refine GO.eq h (fun h => ?_)
  obtain ⟨n9, h⟩ := h
  exact tl_X12_effortOf_L8 n9 ag h
theorem ht : ∀ d, HT (fR12 d) := by
  intro d
  induction d with
  | zero => intro w hw E v0 v1 Z I L ZJ J M A ag h; exact h.elim
  | succ d ih =>
    intro w hw E v0 v1 Z I L ZJ J M A ag h
    match w, hw with
    | 0, _ => exact t_X12_held ih ag h
    | 1, _ => exact t_X12_sum ih ag h
    | 2, _ => exact t_X12_product ih ag h
    | 3, _ => exact t_X12_thing ih ag h
end
section
theorem jrR_at {Z : jZ} {a j : Nat} {v : Option Nat} : jr (jpR Z a j v) a j = v := by
  show va_up Z.2.2.2 a (va_up (Z.2.2.2 a) j v) a j = v
  rw [va_up_self, va_up_self]
theorem jrR_off {Z : jZ} {a j i : Nat} {v : Option Nat} (h : i ≠ j) : jr (jpR Z a j v) a i = jr Z a i := by
  show va_up Z.2.2.2 a (va_up (Z.2.2.2 a) j v) a i = Z.2.2.2 a i
  rw [va_up_self, va_up_ne _ _ h]
theorem jrR_ne {Z : jZ} {a j b i : Nat} {v : Option Nat} (h : b ≠ a) : jr (jpR Z a j v) b i = jr Z b i := by
  show va_up Z.2.2.2 a (va_up (Z.2.2.2 a) j v) b i = Z.2.2.2 b i
  rw [va_up_ne _ _ h]
theorem A0.begin {E : Prop} {v0 c : Nat} {Z : jZ} {I : jI} {L : jL} {ZJ : jZ} {J : jI} {M : jL} (ag : A0 E v0 Z I L ZJ J M) (hc : c ≠ v0 ∧ jk Z c 13 ∧ jk ZJ c 13 ∧ jlen ZJ c = jlen Z c ∧ J c = I c) :
    A0 E v0 (jpR Z v0 23 (some c)) I L (jpR ZJ v0 23 (some c)) J M ∧ RDn v0 (jpR Z v0 23 (some c)) I (jpR ZJ v0 23 (some c)) J := by
  refine ⟨⟨fun e => ⟨by rw [(ag.1 e).1], (ag.1 e).2⟩, fun j hj => ?_, ?_⟩, c, jrR_at, jrR_at, hc.1, hc.2.1, hc.2.2.1, hc.2.2.2.1, hc.2.2.2.2⟩
  · obtain ⟨b, g1, g2, g3, g4⟩ := ag.2.1 j hj
    have h23 : j ≠ 23 := fun e => by subst e; revert hj; decide
    exact ⟨b, (jrR_off h23).trans g1, (jrR_off h23).trans g2, g3, g4⟩
  · obtain ⟨b, g1, g2, g3, g4⟩ := ag.2.2
    refine ⟨b, (jrR_off (by decide)).trans g1, (jrR_off (by decide)).trans g2, g3, fun k hk => ?_⟩
    obtain ⟨c2, f1, f2, f3, f4, f5, f6, f7⟩ := g4 k hk
    exact ⟨c2, (jrR_ne g3).trans f1, (jrR_ne g3).trans f2, f3, f4, f5, f6, f7⟩
theorem FLD_mem : ∀ j ∈ ([24, 25, 26, 27, 31, 32, 33, 34] : List Nat), j ∈ ([34, 33, 32, 31, 27, 26, 25, 24] : List Nat) := by decide
set_option maxHeartbeats 4000000 in
theorem t_X12_lawOf {B : Nat × Nat} {E : Prop} {v0 : Nat} {v1 v2 v3 v4 v5 : Int32} {Z : jZ} {I : jI} {L : jL} {ZJ : jZ} {J : jI} {M : jL} {A : Int32 → jZ → jI → jL → Prop} (ag : A0 E v0 Z I L ZJ J M) (h : f_X12_lawOf B v0 v1 v2 v3 v4 v5 Z I L A) : GO (OKZ (fun Z I L ZJ J M => A0 E v0 Z I L ZJ J M) A) (fun Q => f_X12_lawOf B v0 v1 v2 v3 v4 v5 ZJ J M Q) := by
  unfold f_X12_lawOf at h ⊢
  obtain ⟨b1, e1, f1, n1, a1⟩ := ag.2.1 30 (by decide)
  refine GO.ref e1 f1 h (fun h => ?_)
  rw [a1]
  refine GO.ob h (fun o h => ?_)
  refine GO.itn h (fun c h => ?_) (fun c h => ?_)
  · obtain ⟨b4, e4, f4, n4, a4⟩ := ag.2.2
    refine GO.ref e4 f4 h (fun h => ?_)
    refine GO.ob h (fun o2 h => ?_)
    obtain ⟨c6, e6, f6, n6, k6, j6, l6, a6⟩ := a4 v1.toNatClampNeg (vp_lt o2)
    refine GO.ref e6 f6 h (fun h => ?_)
    refine GO.ref e1 f1 h (fun h => ?_)
    try rw [a1]
    refine GO.ob h (fun o3 h => ?_)
    unfold f_X12_begin at h ⊢
    refine GO.eq h (fun h => ?_)
    refine GO.eq h (fun h => ?_)
    refine GO.eq h (fun h => ?_)
    refine GO.eq h (fun h => ?_)
    refine GO.eq h (fun h => ?_)
    refine GO.eq h (fun h => ?_)
    refine GO.eq h (fun h => ?_)
    refine GO.eq h (fun h => ?_)
    refine GO.eq h (fun h => ?_)
    obtain ⟨g1, g2⟩ := ag.begin ⟨n6, k6, j6, l6, a6⟩
    have g3 := (((((((g1.put 24 (I b1 v1.toNatClampNeg)).put 25 40).put 26 0).put 27 (-1)).put 31 v2).put 32 v3).put 33 v4).put 34 v5
    have af0 : AF [] v0 I J := fun j hj => absurd hj (by simp)
    have g4 := (((((((af0.put 24 (I b1 v1.toNatClampNeg)).put 25 40).put 26 0).put 27 (-1)).put 31 v2).put 32 v3).put 33 v4).put 34 v5
    obtain ⟨b9, q1, q2, q3, q4, q5, q6, q7⟩ := g2
    have ag1 : A1 E v0 _ _ L _ _ M := ⟨g3, ⟨b9, q1, q2, q3, q4, q5, q6, by rw [jpI_ne q3, jpI_ne q3, jpI_ne q3, jpI_ne q3, jpI_ne q3, jpI_ne q3, jpI_ne q3, jpI_ne q3, jpI_ne q3, jpI_ne q3, jpI_ne q3, jpI_ne q3, jpI_ne q3, jpI_ne q3, jpI_ne q3, jpI_ne q3]; exact q7⟩, fun j hj => g4 j (FLD_mem j hj)⟩
    refine GO.callI (ht 100 0 (by decide) ag1 h) (fun r I1 L1 J1 M1 ag2 h => ?_)
    exact GO.leafZ ag2.1 h
  · refine GO.ite h (fun c h => ?_) (fun c h => ?_)
    · unfold f_X12_lawOf_b23 at h ⊢
      exact GO.leafZ ag h
    · obtain ⟨b8, e8, f8, n8, a8⟩ := ag.2.1 4 (by decide)
      refine GO.ref e8 f8 h (fun h => ?_)
      rw [a8]
      refine GO.ob h (fun o2 h => ?_)
      refine GO.ite h (fun c h => ?_) (fun c h => ?_)
      · obtain ⟨b7, e7, f7, n7, a7⟩ := ag.2.1 3 (by decide)
        refine GO.ref e7 f7 h (fun h => ?_)
        rw [a7]
        refine GO.ob h (fun o2 h => ?_)
        exact GO.leafZ ag h
      · unfold f_X12_lawOf_b23 at h ⊢
        exact GO.leafZ ag h
set_option maxHeartbeats 4000000 in
set_option maxRecDepth 100000 in
theorem tl_X12_costOf_L29 {B : Nat × Nat} {E : Prop} {v0 : Nat} {A : Int32 → jZ → jI → jL → Prop} : ∀ (n : Nat) {v1 : Int32} {v2 : Int32} {v3 : Int32} {v4 : Int32} {v5 : Int32} {v6 : Int32} {Z : jZ} {I : jI} {L : jL} {ZJ : jZ} {J : jI} {M : jL}, A0 E v0 Z I L ZJ J M → f_X12_costOf_L29 B A n v0 v1 v2 v3 v4 v5 v6 Z I L → GO (OKZ (fun Z I L ZJ J M => A0 E v0 Z I L ZJ J M) A) (fun Q => ∃ m, f_X12_costOf_L29 B Q m v0 v1 v2 v3 v4 v5 v6 ZJ J M) := by
  intro n
  induction n with
  | zero => intro v1 v2 v3 v4 v5 v6 Z I L ZJ J M ag h; exact h.elim
  | succ n ih =>
    intro v1 v2 v3 v4 v5 v6 Z I L ZJ J M ag h
    refine GO.loop (Bm := fun m Q => f_X12_costOf_L29 B Q m v0 v1 v2 v3 v4 v5 v6 ZJ J M) (fun _ h => h) ?_
    show GO _ (fun q : (Int32 → jZ → jI → jL → Prop) × Nat => f_X12_costOf_L29 B q.1 (q.2 + 1) v0 v1 v2 v3 v4 v5 v6 ZJ J M)
    unfold f_X12_costOf_L29 at h ⊢
    refine GO.ite h (fun c h => ?_) (fun c h => ?_)
    · skip
      exact GO.leafB (B := fun (Q : Int32 → jZ → jI → jL → Prop) => Q _ _ _ _) (GO.leafZ ag h)
    · skip
      obtain ⟨b1, eb1, fb1, nb1, ab1⟩ := ag.2.1 12 (by decide)
      refine GO.ref eb1 fb1 h (fun h => ?_)
      try rw [ab1]
      refine GO.ob h (fun o h => ?_)
      refine GO.callZ (t_X12_lawOf ag h) (fun r Z I L ZJ J M ag h => ?_)
      refine GO.eq h (fun h => ?_)
      refine GO.eq h (fun h => ?_)
      have g9 := GO.back (ih ag h)
      exact g9
set_option maxHeartbeats 4000000 in
set_option maxRecDepth 100000 in
theorem t_X12_costOf {B : Nat × Nat} {E : Prop} {v0 : Nat} {v1 : Int32} {v2 : Int32} {v3 : Int32} {Z : jZ} {I : jI} {L : jL} {ZJ : jZ} {J : jI} {M : jL} {A : Int32 → jZ → jI → jL → Prop} (ag : A0 E v0 Z I L ZJ J M) (h : f_X12_costOf B v0 v1 v2 v3 Z I L A) : GO (OKZ (fun Z I L ZJ J M => A0 E v0 Z I L ZJ J M) A) (fun Q => f_X12_costOf B v0 v1 v2 v3 ZJ J M Q) := by
  unfold f_X12_costOf at h ⊢
  refine GO.eq h (fun h => ?_)
  obtain ⟨b2, eb2, fb2, nb2, ab2⟩ := ag.2.1 12 (by decide)
  refine GO.ref eb2 fb2 h (fun h => ?_)
  try rw [ab2]
  refine GO.ob h (fun o h => ?_)
  refine GO.callZ (t_X12_lawOf ag h) (fun r Z I L ZJ J M ag h => ?_)
  refine GO.eq h (fun h => ?_)
  obtain ⟨n9, h⟩ := h
  exact tl_X12_costOf_L29 n9 ag h
end
section
/-! ===== prices, efforts, owners of a world, as told; worlds of one class have the same ===== -/
def A0L : List Nat := [1, 2, 3, 4, 5, 6, 11, 12, 13, 30]
def A0W : List (Nat × Nat) := [(12, 1), (12, 2), (12, 3), (12, 4), (12, 5), (12, 6), (12, 11), (12, 12), (12, 13), (12, 30), (19, 0), (19, 1)]
theorem shA {Z : jZ} {v0 j : Nat} (h : SH Z) (k : jk Z v0 12) (hj : j ∈ ([1, 2, 3, 4, 5, 6, 11, 12, 13, 30] : List Nat)) : ∃ b, jr Z v0 j = some b ∧ jia (Z.2.1 b) = true ∧ b ≠ v0 := by
  have key : ∀ (m kd : Nat), jia kd = true → (∃ b, jr Z v0 j = some b ∧ jk Z b kd ∧ jlen Z b = m) → ∃ b, jr Z v0 j = some b ∧ jia (Z.2.1 b) = true ∧ b ≠ v0 := fun m kd hk ⟨b, e, kb, _⟩ => ⟨b, e, by rw [kb.2]; exact hk, fun q => by
    subst q
    rw [kb.2.symm.trans k.2] at hk
    cases hk⟩
  simp only [List.mem_cons, List.not_mem_nil, or_false] at hj
  rcases hj with rfl | rfl | rfl | rfl | rfl | rfl | rfl | rfl | rfl | rfl
  · exact key 24 14 rfl (sh_f h k (j := 1) (k := 14) (m := 24) rfl)
  · exact key 24 14 rfl (sh_f h k (j := 2) (k := 14) (m := 24) rfl)
  · exact key 24 14 rfl (sh_f h k (j := 3) (k := 14) (m := 24) rfl)
  · exact key 24 16 rfl (sh_f h k (j := 4) (k := 16) (m := 24) rfl)
  · exact key 192 14 rfl (sh_f h k (j := 5) (k := 14) (m := 192) rfl)
  · exact key 64 16 rfl (sh_f h k (j := 6) (k := 16) (m := 64) rfl)
  · exact key 6 14 rfl (sh_f h k (j := 11) (k := 14) (m := 6) rfl)
  · exact key 6 14 rfl (sh_f h k (j := 12) (k := 14) (m := 6) rfl)
  · exact key 6 14 rfl (sh_f h k (j := 13) (k := 14) (m := 6) rfl)
  · exact key 2 14 rfl (sh_f h k (j := 30) (k := 14) (m := 2) rfl)
theorem A0L_W : ∀ j ∈ ([1, 2, 3, 4, 5, 6, 11, 12, 13, 30] : List Nat), (12, j) ∈ A0W ∧ j ≠ 23 := by decide
theorem jsr12 {j : Nat} (h : j ≠ 23) : jsr 12 j = false := by
  unfold jsr; simp [h]
theorem A0_FR {E : Prop} {W : List (Nat × Nat)} {v0 : Nat} {Z Z' : jZ} {I I' : jI} {L L' : jL} (w : WD Z I) (k : jk Z v0 12) (q : FR W Z I Z' I') (hW : ∀ p ∈ A0W, p ∉ W) (he : E → Z' = Z ∧ I' = I ∧ L' = L) : A0 E v0 Z I L Z' I' L' := by
  refine ⟨he, fun j hj => ?_, ?_⟩
  · obtain ⟨b, e, kb, nb⟩ := shA w.1 k hj
    have hm := A0L_W j hj
    refine ⟨b, e, (q.2.1 v0 12 j k (fun h => by cases h.1) (fun h => hm.2 h.2)).trans e, nb, q.2.2.2 v0 12 j b k e kb (jsr12 hm.2) (hW _ hm.1)⟩
  · obtain ⟨b, e, kb, lb⟩ := sh_f w.1 k (j := 29) (k := 19) (m := 2) rfl
    refine ⟨b, e, (q.2.1 v0 12 29 k (fun h => by cases h.1) (fun h => by cases h.2)).trans e, (fun h => by subst h; cases kb.2.symm.trans k.2), fun i hi => ?_⟩
    obtain ⟨c, f1, f2, f3⟩ := w.1.2.2.2 b kb i (by rw [lb]; exact hi)
    refine ⟨c, f1, (q.2.1 b 19 i kb (fun h => by cases h.1) (fun h => by cases h.1)).trans f1, (fun h => by subst h; cases f2.2.symm.trans k.2), f2, (q.1 c 13 f2).1, (q.1 c 13 f2).2, q.2.2.2 b 19 i c kb f1 (by rw [f2.2]; rfl) (by simp [jsr]) (hW _ ?_)⟩
    rcases (show i = 0 ∨ i = 1 by omega) with rfl | rfl <;> decide
theorem A0.symm {v0 : Nat} {Z ZJ : jZ} {I J : jI} {L M : jL} (h : A0 False v0 Z I L ZJ J M) : A0 False v0 ZJ J M Z I L := by
  refine ⟨fun e => e.elim, fun j hj => ?_, ?_⟩
  · obtain ⟨b, g1, g2, g3, g4⟩ := h.2.1 j hj
    exact ⟨b, g2, g1, g3, g4.symm⟩
  · obtain ⟨b, g1, g2, g3, g4⟩ := h.2.2
    refine ⟨b, g2, g1, g3, fun k hk => ?_⟩
    obtain ⟨c, f1, f2, f3, f4, f5, f6, f7⟩ := g4 k hk
    exact ⟨c, f2, f1, f3, f5, f4, f6.symm, f7.symm⟩
theorem A0.trans {v0 : Nat} {Z ZJ ZK : jZ} {I J K : jI} {L M N : jL} (h : A0 False v0 Z I L ZJ J M) (h' : A0 False v0 ZJ J M ZK K N) : A0 False v0 Z I L ZK K N := by
  refine ⟨fun e => e.elim, fun j hj => ?_, ?_⟩
  · obtain ⟨b, g1, g2, g3, g4⟩ := h.2.1 j hj
    obtain ⟨b', g1', g2', g3', g4'⟩ := h'.2.1 j hj
    cases g2.symm.trans g1'
    exact ⟨b, g1, g2', g3, g4'.trans g4⟩
  · obtain ⟨b, g1, g2, g3, g4⟩ := h.2.2
    obtain ⟨b', g1', g2', g3', g4'⟩ := h'.2.2
    cases g2.symm.trans g1'
    refine ⟨b, g1, g2', g3, fun k hk => ?_⟩
    obtain ⟨c, f1, f2, f3, f4, f5, f6, f7⟩ := g4 k hk
    obtain ⟨c', f1', f2', f3', f4', f5', f6', f7'⟩ := g4' k hk
    cases f2.symm.trans f1'
    exact ⟨c, f1, f2', f3, f4, f5', f6'.trans f6, f7'.trans f7⟩
theorem A0.anyL {v0 : Nat} {Z ZJ : jZ} {I J : jI} {L M L' M' : jL} (h : A0 False v0 Z I L ZJ J M) : A0 False v0 Z I L' ZJ J M' := ⟨fun e => e.elim, h.2⟩
def jL0 : jL := fun _ _ => 0
/-- the price c of a move -/
def CV0 (B : Nat × Nat) (v0 : Nat) (Z : jZ) (I : jI) (p fr to c : Int32) : Prop := ∃ (ZJ : jZ) (J : jI) (M : jL), A0 False v0 Z I jL0 ZJ J M ∧ ∃ (Z1 : jZ) (I1 : jI) (L1 : jL), ∀ Q, f_X12_costOf B v0 p fr to ZJ J M Q ↔ Q c Z1 I1 L1
def EV0 (v0 : Nat) (Z : jZ) (I : jI) (p fr to c : Int32) : Prop := ∃ (ZJ : jZ) (J : jI) (M : jL), A0 False v0 Z I jL0 ZJ J M ∧ ∀ Q, f_X12_effortOf v0 p fr to ZJ J M Q ↔ Q c J M
def MN0 (v0 : Nat) (Z : jZ) (I : jI) (s c : Int32) : Prop := ∃ (ZJ : jZ) (J : jI) (M : jL), A0 False v0 Z I jL0 ZJ J M ∧ ∀ Q, f_X12_mainOf v0 s ZJ J M Q ↔ Q c J M
theorem CV0.uniq {B : Nat × Nat} {v0 : Nat} {Z : jZ} {I : jI} {p fr to c c' : Int32} (h : CV0 B v0 Z I p fr to c) (h' : CV0 B v0 Z I p fr to c') : c = c' := by
  obtain ⟨ZJ, J, M, a, Z1, I1, L1, g⟩ := h
  obtain ⟨ZK, K, N, a', Z2, I2, L2, g'⟩ := h'
  obtain ⟨K1, ⟨r, _, _, _, Z3, I3, L3, e1, -, rfl⟩, e2⟩ := t_X12_costOf (A := fun r _ _ _ => r = c) (a.symm.trans a') ((g _).mpr rfl)
  have := (e2 (fun r _ _ _ => r = c')).mp ((g' _).mpr rfl)
  exact e1.symm.trans this
theorem EV0.uniq {v0 : Nat} {Z : jZ} {I : jI} {p fr to c c' : Int32} (h : EV0 v0 Z I p fr to c) (h' : EV0 v0 Z I p fr to c') : c = c' := by
  obtain ⟨ZJ, J, M, a, g⟩ := h
  obtain ⟨ZK, K, N, a', g'⟩ := h'
  obtain ⟨K1, ⟨r, e1, rfl⟩, e2⟩ := t_X12_effortOf (A := fun r _ _ => r = c) (a.symm.trans a') ((g _).mpr rfl)
  have := (e2 (fun r _ _ => r = c')).mp ((g' _).mpr rfl)
  exact e1.symm.trans this
theorem MN0.uniq {v0 : Nat} {Z : jZ} {I : jI} {s c c' : Int32} (h : MN0 v0 Z I s c) (h' : MN0 v0 Z I s c') : c = c' := by
  obtain ⟨ZJ, J, M, a, g⟩ := h
  obtain ⟨ZK, K, N, a', g'⟩ := h'
  obtain ⟨K1, ⟨r, e1, rfl⟩, e2⟩ := t_X12_mainOf (A := fun r _ _ => r = c) (a.symm.trans a') ((g _).mpr rfl)
  have := (e2 (fun r _ _ => r = c')).mp ((g' _).mpr rfl)
  exact e1.symm.trans this
theorem CV0.cls {B : Nat × Nat} {v0 : Nat} {Z Z' : jZ} {I I' : jI} {L L' : jL} {p fr to c : Int32} (a : A0 False v0 Z I L Z' I' L') (h : CV0 B v0 Z' I' p fr to c) : CV0 B v0 Z I p fr to c := by
  obtain ⟨ZJ, J, M, a2, g⟩ := h
  exact ⟨ZJ, J, M, (a.anyL).trans a2, g⟩
theorem EV0.cls {v0 : Nat} {Z Z' : jZ} {I I' : jI} {L L' : jL} {p fr to c : Int32} (a : A0 False v0 Z I L Z' I' L') (h : EV0 v0 Z' I' p fr to c) : EV0 v0 Z I p fr to c := by
  obtain ⟨ZJ, J, M, a2, g⟩ := h
  exact ⟨ZJ, J, M, (a.anyL).trans a2, g⟩
theorem MN0.cls {v0 : Nat} {Z Z' : jZ} {I I' : jI} {L L' : jL} {s c : Int32} (a : A0 False v0 Z I L Z' I' L') (h : MN0 v0 Z' I' s c) : MN0 v0 Z I s c := by
  obtain ⟨ZJ, J, M, a2, g⟩ := h
  exact ⟨ZJ, J, M, (a.anyL).trans a2, g⟩
theorem A0W_none : ∀ p ∈ A0W, p ∉ ([] : List (Nat × Nat)) := by decide
theorem s9_X12_costOf {B : Nat × Nat} {T : Nat} {Z : jZ} {I : jI} {L : jL} (w_I : WD Z I) (bd_Z : BUD B Z T) (v0 : Nat) (v1 : Int32) (v2 : Int32) (v3 : Int32) (kv0 : jk Z v0 12) (p0 : 0 ≤ v1.toInt ∧ v1.toInt ≤ 5 ∧ -1 ≤ v2.toInt ∧ v2.toInt < v3.toInt ∧ v3.toInt ≤ 23 ∧ v3.toInt - v2.toInt ≤ 3) {Q : Int32 → jZ → jI → jL → Prop}
    (hQ : ∀ (r : Int32) (Z' : jZ) (I' : jI) (L' : jL), WD Z' I' → BUD B Z' T → FR Ws_X12_costOf Z I Z' I' → CP Z Z' → ((0 ≤ r.toInt ∧ r.toInt ≤ 297) ∧ CV0 B v0 Z I v1 v2 v3 r) → Q r Z' I' L') : f_X12_costOf B v0 v1 v2 v3 Z I L Q := by
  have h := s_X12_costOf (L := L) w_I bd_Z v0 v1 v2 v3 kv0 p0 (Q := fun r Z' I' L' => WD Z' I' ∧ BUD B Z' T ∧ FR Ws_X12_costOf Z I Z' I' ∧ CP Z Z' ∧ (0 ≤ r.toInt ∧ r.toInt ≤ 297)) (fun r Z' I' L' a b c d e => ⟨a, b, c, d, e⟩)
  have ag : A0 True v0 Z I L Z I L := A0_FR w_I kv0 (FR.rf (W := [])) A0W_none (fun _ => ⟨rfl, rfl, rfl⟩)
  obtain ⟨K, ⟨r, Z1, I1, L1, Z2, I2, L2, ⟨a, b, c, d, e⟩, g, rfl⟩, hK⟩ := t_X12_costOf ag h
  obtain ⟨rfl, rfl, rfl⟩ := g.1 trivial
  exact (hK Q).mpr (hQ r _ _ _ a b c d ⟨e, Z, I, L, ⟨fun e => e.elim, ag.2⟩, _, _, _, hK⟩)
theorem s9_X12_effortOf {Z : jZ} {I : jI} {L : jL} (w_I : WD Z I) (v0 : Nat) (v1 : Int32) (v2 : Int32) (v3 : Int32) (kv0 : jk Z v0 12) (p0 : 0 ≤ v1.toInt ∧ v1.toInt ≤ 5 ∧ -1 ≤ v2.toInt ∧ v2.toInt < v3.toInt ∧ v3.toInt ≤ 23 ∧ v3.toInt - v2.toInt ≤ 3) {Q : Int32 → jI → jL → Prop} (hQ : ∀ (r : Int32), ((0 ≤ r.toInt ∧ r.toInt ≤ 999) ∧ EV0 v0 Z I v1 v2 v3 r) → Q r I L) : f_X12_effortOf v0 v1 v2 v3 Z I L Q := by
  have h := s_X12_effortOf (L := L) w_I v0 v1 v2 v3 kv0 p0 (Q := fun r _ _ => 0 ≤ r.toInt ∧ r.toInt ≤ 999) (fun r a => a)
  have ag : A0 True v0 Z I L Z I L := A0_FR w_I kv0 (FR.rf (W := [])) A0W_none (fun _ => ⟨rfl, rfl, rfl⟩)
  obtain ⟨K, ⟨r, a, rfl⟩, hK⟩ := t_X12_effortOf ag h
  exact (hK Q).mpr (hQ r ⟨a, Z, I, L, ⟨fun e => e.elim, ag.2⟩, hK⟩)
theorem s9_X12_mainOf {Z : jZ} {I : jI} {L : jL} (w_I : WD Z I) (v0 : Nat) (v1 : Int32) (kv0 : jk Z v0 12) (p0 : 0 ≤ v1.toInt ∧ v1.toInt ≤ 23) {Q : Int32 → jI → jL → Prop} (hQ : ∀ (r : Int32), ((0 ≤ r.toInt ∧ r.toInt ≤ 7) ∧ MN0 v0 Z I v1 r) → Q r I L) : f_X12_mainOf v0 v1 Z I L Q := by
  have h := s_X12_mainOf (L := L) w_I v0 v1 kv0 p0 (Q := fun r _ _ => 0 ≤ r.toInt ∧ r.toInt ≤ 7) (fun r a => a)
  have ag : A0 True v0 Z I L Z I L := A0_FR w_I kv0 (FR.rf (W := [])) A0W_none (fun _ => ⟨rfl, rfl, rfl⟩)
  obtain ⟨K, ⟨r, a, rfl⟩, hK⟩ := t_X12_mainOf ag h
  exact (hK Q).mpr (hQ r ⟨a, Z, I, L, ⟨fun e => e.elim, ag.2⟩, hK⟩)
/-- the vow bars a family -/
def hvb (a m : Int32) : Prop := ((a >>> (m &&& 31)) &&& (1 : Int32)) = (1 : Int32)
theorem s9_X12_has {Z : jZ} {I : jI} {L : jL} (w_I : WD Z I) (v0 : Int32) (v1 : Int32) {Q : Int32 → jI → jL → Prop} (hQ : ∀ (r : Int32), ((r.toInt = 1 ∧ hvb v0 v1) ∨ (r.toInt = 0 ∧ ¬ hvb v0 v1)) → Q r I L) : f_X12_has v0 v1 Z I L Q :=
  ⟨fun c => hQ 0 (Or.inr ⟨rfl, c⟩), fun c => hQ 1 (Or.inl ⟨rfl, c⟩)⟩
/-- what stands in a place of the moves -/
def MV1 (B : Nat × Nat) (v0 : Nat) (Z : jZ) (I : jI) (st sh : Int) (lp vw p : Int32) (k : Nat) (c e : Int32) : Prop :=
  ((lp.toInt < ((k % 3 : Nat) : Int) + 1 ∨ st ≤ ((k / 3 : Nat) : Int) + ((k % 3 : Nat) : Int) ∨ ((k / 3 : Nat) : Int) + ((k % 3 : Nat) : Int) = sh) ∧ c.toInt = 1000000000)
  ∨ (¬ (lp.toInt < ((k % 3 : Nat) : Int) + 1 ∨ st ≤ ((k / 3 : Nat) : Int) + ((k % 3 : Nat) : Int) ∨ ((k / 3 : Nat) : Int) + ((k % 3 : Nat) : Int) = sh) ∧ ∃ fr to m : Int32, fr.toInt = ((k / 3 : Nat) : Int) - 1 ∧ to.toInt = ((k / 3 : Nat) : Int) + ((k % 3 : Nat) : Int) ∧ MN0 v0 Z I to m ∧ ((hvb vw m ∧ c.toInt = 1000000000) ∨ (¬ hvb vw m ∧ CV0 B v0 Z I p fr to c ∧ EV0 v0 Z I p fr to e)))
theorem MV1.uniq {B : Nat × Nat} {v0 : Nat} {Z : jZ} {I : jI} {st sh : Int} {lp vw p : Int32} {k : Nat} {c e c' e' : Int32} (h : MV1 B v0 Z I st sh lp vw p k c e) (h' : MV1 B v0 Z I st sh lp vw p k c' e') : c = c' ∧ (¬ c.toInt = 1000000000 → e = e') := by
  have far : c.toInt = 1000000000 → c'.toInt = 1000000000 → c = c' := fun a b => (i_eq rfl rfl).mpr (a.trans b.symm)
  rcases h with ⟨h1, h2⟩ | ⟨h1, fr, to, m, h2, h3, h4, h5⟩
  · rcases h' with ⟨g1, g2⟩ | ⟨g1, -⟩
    · exact ⟨far h2 g2, fun n => absurd h2 n⟩
    · exact absurd h1 g1
  · rcases h' with ⟨g1, -⟩ | ⟨-, fr', to', m', g2, g3, g4, g5⟩
    · exact absurd g1 h1
    · obtain rfl : fr = fr' := (i_eq rfl rfl).mpr (h2.trans g2.symm)
      obtain rfl : to = to' := (i_eq rfl rfl).mpr (h3.trans g3.symm)
      obtain rfl := h4.uniq g4
      rcases h5 with ⟨a1, a2⟩ | ⟨a1, a2, a3⟩
      · rcases g5 with ⟨b1, b2⟩ | ⟨b1, -, -⟩
        · exact ⟨far a2 b2, fun n => absurd a2 n⟩
        · exact absurd a1 b1
      · rcases g5 with ⟨b1, -⟩ | ⟨-, b2, b3⟩
        · exact absurd b1 a1
        · exact ⟨a2.uniq b2, fun _ => a3.uniq b3⟩
theorem MV1.cls {B : Nat × Nat} {v0 : Nat} {Z Z' : jZ} {I I' : jI} {L L' : jL} {st sh : Int} {lp vw p : Int32} {k : Nat} {c e : Int32} (a : A0 False v0 Z I L Z' I' L') (h : MV1 B v0 Z' I' st sh lp vw p k c e) : MV1 B v0 Z I st sh lp vw p k c e := by
  rcases h with h | ⟨h1, fr, to, m, h2, h3, h4, h5⟩
  · exact Or.inl h
  · exact Or.inr ⟨h1, fr, to, m, h2, h3, MN0.cls a h4, h5.imp id (fun ⟨b1, b2, b3⟩ => ⟨b1, CV0.cls a b2, EV0.cls a b3⟩)⟩
def LMV (B : Nat × Nat) (v0 : Nat) (Z : jZ) (I : jI) (st sh : Int) (lp vw p : Int32) (K : Int) (C E : Nat → Int32) : Prop := ∀ k : Nat, (k : Int) < K → MV1 B v0 Z I st sh lp vw p k (C k) (E k)
theorem LMV.zero {B : Nat × Nat} {v0 : Nat} {Z : jZ} {I : jI} {st sh : Int} {lp vw p : Int32} {K : Int} {C E : Nat → Int32} (h : K ≤ 0) : LMV B v0 Z I st sh lp vw p K C E := fun k hk => by omega
theorem LMV.step {B : Nat × Nat} {v0 : Nat} {Z : jZ} {I : jI} {st sh : Int} {lp vw p : Int32} {K K' : Int} {C E C' E' : Nat → Int32} (h : LMV B v0 Z I st sh lp vw p K C E) (P : Nat) (hP : (P : Int) = K) (hC : ∀ q, q ≠ P → C' q = C q) (hE : ∀ q, q ≠ P → E' q = E q) (hv : MV1 B v0 Z I st sh lp vw p P (C' P) (E' P)) (hK : K' = K + 1) : LMV B v0 Z I st sh lp vw p K' C' E' := by
  intro k hk
  by_cases e : k = P
  · subst e; exact hv
  · rw [hC k e, hE k e]; exact h k (by omega)
end
section
/-! ===== the best rows are least: a table has one such ===== -/
def DM1 (N : Int) (C E Bf : Nat → Int32) (f e : Nat) (lim v : Int) : Prop :=
  (((f : Int) = N ∧ e = 0) → v ≤ 0) ∧ ∀ far k i : Nat, 1 ≤ far → (far : Int) < lim → k + 1 = 3 * f + far → ¬ (C k).toInt = 1000000000 → (E k).toInt ≤ (e : Int) → (i : Int) = 1000 * ((f : Int) + far) + e - (E k).toInt → ¬ (Bf i).toInt = 1000000000 → v ≤ (Bf i).toInt + 100 * (C k).toInt + 1
def DMR (N most : Int) (C E Bf : Nat → Int32) (F e1 : Int) : Prop :=
  ∀ f e : Nat, (f : Int) ≤ N → (e : Int) ≤ most → (F + 1 ≤ (f : Int) ∨ ((f : Int) = F ∧ (e : Int) < e1)) → DM1 N C E Bf f e 4 (Bf (1000 * f + e)).toInt
theorem DM1.upd {N : Int} {C E Bf Bf' : Nat → Int32} {f e j0 : Nat} {lim v : Int} (hB : ∀ q, q ≠ j0 → Bf' q = Bf q) (hj : j0 < 1000 * (f + 1)) (h : DM1 N C E Bf f e lim v) : DM1 N C E Bf' f e lim v := by
  refine ⟨h.1, fun far k i a b c d g m n => ?_⟩
  rw [hB i (by omega)] at n ⊢
  exact h.2 far k i a b c d g m n
theorem DM1.init {N : Int} {C E Bf : Nat → Int32} {f e : Nat} {v : Int} (h : ((f : Int) = N ∧ e = 0) → v ≤ 0) : DM1 N C E Bf f e 1 v := ⟨h, fun far k i a b => by omega⟩
theorem DM1.more {N : Int} {C E Bf : Nat → Int32} {f e : Nat} {lim lim' v v' : Int} (h : DM1 N C E Bf f e lim v) (hv : v' ≤ v) (hl : lim' = lim + 1) (k0 : Nat) (hk : (k0 : Int) + 1 = 3 * (f : Int) + lim)
    (hc : ∀ i : Nat, ¬ (C k0).toInt = 1000000000 → (E k0).toInt ≤ (e : Int) → (i : Int) = 1000 * ((f : Int) + lim) + e - (E k0).toInt → ¬ (Bf i).toInt = 1000000000 → v' ≤ (Bf i).toInt + 100 * (C k0).toInt + 1) : DM1 N C E Bf f e lim' v' := by
  refine ⟨fun z => Int.le_trans hv (h.1 z), fun far k i a b c d g m n => ?_⟩
  by_cases hf : (far : Int) = lim
  · obtain rfl : k = k0 := by omega
    exact hc i d g (by rw [← hf]; exact m) n
  · exact Int.le_trans hv (h.2 far k i a (by omega) c d g m n)
theorem DMR.zero {N most : Int} {C E Bf : Nat → Int32} {F : Int} (h : N ≤ F) : DMR N most C E Bf F 0 := fun f e h1 h2 h3 => by omega
theorem DMR.next {N most : Int} {C E Bf : Nat → Int32} {F F' e1 : Int} (h : DMR N most C E Bf F e1) (he : most < e1) (hF : F' = F - 1) : DMR N most C E Bf F' 0 := fun f e h1 h2 h3 => h f e h1 h2 (by omega)
theorem DMR.step {N most : Int} {C E Bf Bf' : Nat → Int32} {F e1 e1' : Int} {f0 e0 j0 : Nat} {v : Int} (h : DMR N most C E Bf F e1) (h1 : DM1 N C E Bf f0 e0 4 v) (hf : (f0 : Int) = F) (he : (e0 : Int) = e1) (hj : j0 = 1000 * f0 + e0) (he0 : e0 < 1000) (hB : ∀ q, q ≠ j0 → Bf' q = Bf q) (hv : (Bf' j0).toInt = v) (he' : e1' = e1 + 1) (hm : most < 1000) : DMR N most C E Bf' F e1' := by
  intro f e a b c
  by_cases hs : f = f0 ∧ e = e0
  · obtain ⟨rfl, rfl⟩ := hs
    rw [← hj, hv]
    exact h1.upd hB (by omega)
  · rw [hB (1000 * f + e) (by omega)]
    exact (h f e a b (by omega)).upd hB (by omega)
theorem DP_le {N most : Int} {C E Bf C' E' Bf' : Nat → Int32} (hN : N ≤ 24) (mv : MVB (3 * (N + 1)) N C E) (hC : ∀ k : Nat, (k : Int) < 3 * (N + 1) → C' k = C k) (hE : ∀ k : Nat, (k : Int) < 3 * (N + 1) → ¬ (C k).toInt = 1000000000 → E' k = E k) (d : DPR N most C E Bf (-1) 0) (m : DMR N most C E Bf (-1) 0) (d' : DPR N most C' E' Bf' (-1) 0)
    {f e : Nat} (hf : (f : Int) ≤ N) (he : (e : Int) ≤ most) (ih : ∀ f2 e2 : Nat, f < f2 → (f2 : Int) ≤ N → (e2 : Int) ≤ most → (Bf' (1000 * f2 + e2)).toInt = (Bf (1000 * f2 + e2)).toInt) : (Bf (1000 * f + e)).toInt ≤ (Bf' (1000 * f + e)).toInt := by
  have h1 := d f e hf he (by omega)
  have h2 := m f e hf he (by omega)
  rcases d' f e hf he (by omega) with g | ⟨g1, g2, g3⟩
  · rw [g]
    rcases h1 with h | ⟨h3, h4, -⟩
    · omega
    · omega
  · rcases g3 with g | ⟨far, k, i, a1, a2, a3, a4, a5, a6, a7, a8⟩
    · have := h2.1 g
      omega
    · have hk : (k : Int) < 3 * (N + 1) := by omega
      rw [hC k hk] at a4 a8
      rw [hE k hk a4] at a5 a6
      have hm := (mv k hk).resolve_left a4
      have e1 : k / 3 = f := by omega
      have e2 : k % 3 + 1 = far := by omega
      obtain ⟨e3, he3⟩ : ∃ e3 : Nat, (e3 : Int) = e - (E k).toInt := ⟨((e : Int) - (E k).toInt).toNat, by omega⟩
      obtain rfl : i = 1000 * (f + far) + e3 := by omega
      have hi := ih (f + far) e3 (by omega) (by omega) (by omega)
      rw [hi] at a7 a8
      rw [a8]
      exact h2.2 far k _ a1 (by omega) a3 a4 a5 a6 a7
theorem DP_uniq {N most : Int} {C E Bf C' E' Bf' : Nat → Int32} (hN : N ≤ 24) (mv : MVB (3 * (N + 1)) N C E) (mv' : MVB (3 * (N + 1)) N C' E') (hC : ∀ k : Nat, (k : Int) < 3 * (N + 1) → C' k = C k) (hE : ∀ k : Nat, (k : Int) < 3 * (N + 1) → ¬ (C k).toInt = 1000000000 → E' k = E k) (d : DPR N most C E Bf (-1) 0) (m : DMR N most C E Bf (-1) 0) (d' : DPR N most C' E' Bf' (-1) 0) (m' : DMR N most C' E' Bf' (-1) 0) :
    ∀ (n f e : Nat), N - (f : Int) < n → (f : Int) ≤ N → (e : Int) ≤ most → (Bf' (1000 * f + e)).toInt = (Bf (1000 * f + e)).toInt := by
  intro n
  induction n with
  | zero => intro f e h hf; omega
  | succ n ih =>
    intro f e h hf he
    have l1 := DP_le hN mv hC hE d m d' hf he (fun f2 e2 a b c => ih f2 e2 (by omega) b c)
    have l2 := DP_le hN mv' (fun k hk => (hC k hk).symm) (fun k hk hc => (hE k hk (by rw [← hC k hk]; exact hc)).symm) d' m' d hf he (fun f2 e2 a b c => (ih f2 e2 (by omega) b c).symm)
    omega
theorem DPR.nn {N most : Int} {C E Bf : Nat → Int32} (d : DPR N most C E Bf (-1) 0) {e : Nat} (hN : 0 ≤ N) (he : (e : Int) ≤ most) : 0 ≤ (Bf e).toInt := by
  have h := d 0 e (by omega) he (by omega)
  rw [show 1000 * 0 + e = e by omega] at h
  rcases h with h | ⟨h, -⟩ <;> omega
/-- the tables of a pilgrim's moves and best rows -/
def XT (B : Nat × Nat) (v0 : Nat) (Z : jZ) (I : jI) (st sh : Int) (lp vw p : Int32) (kn : Int) (C E Bf : Nat → Int32) : Prop :=
  LMV B v0 Z I st sh lp vw p (3 * (st + 1)) C E ∧ MVB (3 * (st + 1)) st C E ∧ DPR st kn C E Bf (-1) 0 ∧ DMR st kn C E Bf (-1) 0
/-- an effort that the knees and the purse bear -/
def GD (Bf : Nat → Int32) (kn pu : Int) : Prop := ∃ e : Nat, (e : Int) ≤ kn ∧ ¬ (Bf e).toInt = 1000000000 ∧ (Bf e).toInt / 100 ≤ pu
def FCv (B : Nat × Nat) (v0 : Nat) (Z : jZ) (I : jI) (st sh : Int) (lp vw p : Int32) (kn pu : Int) : Prop := ∃ C E Bf : Nat → Int32, XT B v0 Z I st sh lp vw p kn C E Bf ∧ GD Bf kn pu
theorem XT.fc {B : Nat × Nat} {v0 : Nat} {Z : jZ} {I : jI} {st sh : Int} {lp vw p : Int32} {kn pu : Int} {C E Bf : Nat → Int32} (h : XT B v0 Z I st sh lp vw p kn C E Bf) (hs : 0 ≤ st ∧ st ≤ 24) : GD Bf kn pu ↔ FCv B v0 Z I st sh lp vw p kn pu := by
  refine ⟨fun g => ⟨C, E, Bf, h, g⟩, fun ⟨C', E', Bf', h', e, g1, g2, g3⟩ => ?_⟩
  have hC : ∀ k : Nat, (k : Int) < 3 * (st + 1) → C' k = C k := fun k hk => ((h.1 k hk).uniq (h'.1 k hk)).1.symm
  have hE : ∀ k : Nat, (k : Int) < 3 * (st + 1) → ¬ (C k).toInt = 1000000000 → E' k = E k := fun k hk hc => (((h.1 k hk).uniq (h'.1 k hk)).2 hc).symm
  have hu := DP_uniq hs.2 h.2.1 h'.2.1 hC hE h.2.2.1 h.2.2.2 h'.2.2.1 h'.2.2.2 (st.toNat + 1) 0 e (by omega) (by omega) g1
  rw [show 1000 * 0 + e = e by omega] at hu
  exact ⟨e, g1, by rw [← hu]; exact g2, by rw [← hu]; exact g3⟩
theorem FCv.cls {B : Nat × Nat} {v0 : Nat} {Z Z' : jZ} {I I' : jI} {L L' : jL} {st sh : Int} {lp vw p : Int32} {kn pu : Int} (a : A0 False v0 Z I L Z' I' L') (h : FCv B v0 Z' I' st sh lp vw p kn pu) : FCv B v0 Z I st sh lp vw p kn pu := by
  obtain ⟨C, E, Bf, h1, h2⟩ := h
  exact ⟨C, E, Bf, ⟨fun k hk => MV1.cls a (h1.1 k hk), h1.2⟩, h2⟩
end
