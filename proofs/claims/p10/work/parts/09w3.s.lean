/-! ===== the readers of a law: safe at every depth ===== -/
def Ws_R3 : List (Nat × Nat) := [(3, 1), (3, 5), (3, 6), (3, 8)]
def HS3 (d : Nat) (F : FTR3) : Prop := ∀ (w : Nat), w < 5 → ∀ (Z : jZ) (I : jI) (L : jL), WD Z I → ∀ (v0 v1 : Nat) (v2 : Int32), jk Z v0 3 → jk Z v1 10 → 5 * (5 - v2.toInt) - (w : Int) ≤ (d : Int) → (0 ≤ v2.toInt ∧ v2.toInt ≤ 4) → ∀ (Q : jI → jL → Prop), (∀ (I' : jI) (L' : jL), WD Z I' → FR Ws_R3 Z I Z I' → Q I' L') → F w v0 v1 v2 Z I L Q
set_option maxHeartbeats 4000000 in
set_option maxRecDepth 100000 in
theorem s_X3_readThing {d : Nat} {F : FTR3} (hF : HS3 d F) {Z : jZ} {I : jI} {L : jL} (w_I : WD Z I) (v0 : Nat) (v1 : Nat) (v2 : Int32) (kv0 : jk Z v0 3) (kv1 : jk Z v1 10) (p0 : 5 * (5 - v2.toInt) - 4 ≤ (d : Int) + 1 ∧ 0 ≤ v2.toInt ∧ v2.toInt ≤ 4) {Q : jI → jL → Prop} (hQ : ∀  (I' : jI) (L' : jL), WD Z I' → FR Ws_R3 Z I Z I' → Q I' L') : fs_X3_readThing F v0 v1 v2 Z I L Q := by
  unfold fs_X3_readThing
  have q_I : FR Ws_R3 Z I Z I := FR.rf
  have rv2 := i_rng v2
  refine s_X3_look w_I v0 v1 kv0 kv1   (fun r1 p2 => ?_)
  have rr1 := i_rng r1
  refine ⟨fun c3 => ?_, fun c3 => ?_⟩
  · skip
    first | (have t4 : ¬ (r1.toInt = (-1)) := (not_congr (i_eq rfl (show (-1 : Int32).toInt = -1 from rfl))).mp c3) | (have t4 : ¬ (r1.toInt = (-1 : Int32).toInt) := (not_congr (i_eq rfl rfl)).mp c3) | skip
    intro r5 pr5
    have rr5 := i_rng r5
    unfold fs_X3_readThing_b22
    refine ⟨fun c6 => ?_, fun c6 => ?_⟩
    · skip
      first | (have t7 : (I v0 8).toInt = (-1) := (i_eq rfl (show (-1 : Int32).toInt = -1 from rfl)).mp c6) | (have t7 : (I v0 8).toInt = (-1 : Int32).toInt := (i_eq rfl rfl).mp c6) | skip
      refine s_X10_isDigit w_I r1    (fun r8 p9 => ?_)
      have rr8 := i_rng r8
      refine ⟨fun c10 => ?_, fun c10 => ?_⟩
      · skip
        first | (have t11 : r8.toInt = (0) := (i_eq rfl (show (0 : Int32).toInt = 0 from rfl)).mp c10) | (have t11 : r8.toInt = (0 : Int32).toInt := (i_eq rfl rfl).mp c10) | skip
        refine ⟨fun c12 => ?_, fun c12 => ?_⟩
        · skip
          first | (have t13 : r5.toInt < (0) := (i_lt rfl (show (0 : Int32).toInt = 0 from rfl)).mp c12) | (have t13 : r5.toInt < (0 : Int32).toInt := (i_lt rfl rfl).mp c12) | skip
          refine ⟨fun c14 => ?_, fun c14 => ?_⟩
          · skip
            first | (have t15 : ¬ (r1.toInt = (40)) := (not_congr (i_eq rfl (show (40 : Int32).toInt = 40 from rfl))).mp c14) | (have t15 : ¬ (r1.toInt = (40 : Int32).toInt) := (not_congr (i_eq rfl rfl)).mp c14) | skip
            unfold fs_X3_readThing_b113
            intro I16 eI16
            have w_I16 : WD Z I16 := by rw [eI16]; exact WD_putF w_I 3 8 kv0 (by decide) (by decide) trivial
            have f_I16 : FR [(3, 8)] Z I Z I16 := by rw [eI16]; exact FR_putF kv0 (by decide) List.mem_cons_self
            have q_I16 : FR Ws_R3 Z I Z I16 := q_I.trans w_I.1 w_I.2.1 (f_I16.mono (by decide))
            have u17 : (I16 v0 6).toInt = (I v0 6).toInt := by rw [f_I16.2.2.1 v0 3 6 kv0 (by decide) (by decide)]
            first | (have u18 : (I16 v0 8).toInt = (I v0 6).toInt := by (rw [eI16, show jpI I v0 8 (I v0 6) v0 8 = (I v0 6) from jpI_at] <;> exact rfl)) | skip
            exact hQ  I16 L w_I16 q_I16 
          · skip
            first | (have t19 : r1.toInt = (40) := (i_eq rfl (show (40 : Int32).toInt = 40 from rfl)).mp c14) | (have t19 : r1.toInt = (40 : Int32).toInt := (i_eq rfl rfl).mp c14) | skip
            refine ⟨fun c20 => ?_, fun c20 => ?_⟩
            · skip
              first | (have t21 : (4) ≤ v2.toInt := (i_le (show (4 : Int32).toInt = 4 from rfl) rfl).mp c20) | (have t21 : (4 : Int32).toInt ≤ v2.toInt := (i_le rfl rfl).mp c20) | skip
              unfold fs_X3_readThing_b113
              intro I22 eI22
              have w_I22 : WD Z I22 := by rw [eI22]; exact WD_putF w_I 3 8 kv0 (by decide) (by decide) trivial
              have f_I22 : FR [(3, 8)] Z I Z I22 := by rw [eI22]; exact FR_putF kv0 (by decide) List.mem_cons_self
              have q_I22 : FR Ws_R3 Z I Z I22 := q_I.trans w_I.1 w_I.2.1 (f_I22.mono (by decide))
              have u23 : (I22 v0 6).toInt = (I v0 6).toInt := by rw [f_I22.2.2.1 v0 3 6 kv0 (by decide) (by decide)]
              first | (have u24 : (I22 v0 8).toInt = (I v0 6).toInt := by (rw [eI22, show jpI I v0 8 (I v0 6) v0 8 = (I v0 6) from jpI_at] <;> exact rfl)) | skip
              exact hQ  I22 L w_I22 q_I22 
            · skip
              first | (have t25 : ¬ ((4) ≤ v2.toInt) := (not_congr (i_le (show (4 : Int32).toInt = 4 from rfl) rfl)).mp c20) | (have t25 : ¬ ((4 : Int32).toInt ≤ v2.toInt) := (not_congr (i_le rfl rfl)).mp c20) | skip
              intro I26 eI26
              try (have t27 : ((I v0 6) + (1 : Int32)).toInt = ((I v0 6).toInt + (1)) := (i_add rfl (show (1 : Int32).toInt = 1 from rfl) (by omega) (by omega)))
              have w_I26 : WD Z I26 := by rw [eI26]; exact WD_putF w_I 3 6 kv0 (by decide) (by decide) trivial
              have f_I26 : FR [(3, 6)] Z I Z I26 := by rw [eI26]; exact FR_putF kv0 (by decide) List.mem_cons_self
              have q_I26 : FR Ws_R3 Z I Z I26 := q_I.trans w_I.1 w_I.2.1 (f_I26.mono (by decide))
              have u28 : (I26 v0 8).toInt = (I v0 8).toInt := by rw [f_I26.2.2.1 v0 3 8 kv0 (by decide) (by decide)]
              first | (have u29 : (I26 v0 6).toInt = ((I v0 6).toInt + (1)) := by (rw [eI26, show jpI I v0 6 ((I v0 6) + (1 : Int32)) v0 6 = ((I v0 6) + (1 : Int32)) from jpI_at] <;> exact (i_add rfl (show (1 : Int32).toInt = 1 from rfl) (by omega) (by omega)))) | skip
              try (have t30 : (v2 + (1 : Int32)).toInt = (v2.toInt + (1)) := (i_add rfl (show (1 : Int32).toInt = 1 from rfl) (by omega) (by omega)))
              refine hF 0 (by decide) Z I26 L w_I26 v0 v1 (v2 + (1 : Int32)) kv0 kv1 (by omega) (by omega) _ (fun I31 L32 w_I31 f_I31 => ?_)
              have q_I31 : FR Ws_R3 Z I Z I31 := q_I26.trans w_I.1 w_I.2.1 (f_I31.mono (by decide))
              refine s_X3_readClosing w_I31 v0 v1 kv0 kv1   (fun  I33 L34 w_I33 f_I33  => ?_)
              have q_I33 : FR Ws_R3 Z I Z I33 := q_I31.trans w_I.1 w_I.2.1 (f_I33.mono (by decide))
              exact hQ  I33 L34 w_I33 q_I33 
        · skip
          first | (have t35 : ¬ (r5.toInt < (0)) := (not_congr (i_lt rfl (show (0 : Int32).toInt = 0 from rfl))).mp c12) | (have t35 : ¬ (r5.toInt < (0 : Int32).toInt) := (not_congr (i_lt rfl rfl)).mp c12) | skip
          intro I36 eI36
          try (have t37 : ((I v0 6) + (1 : Int32)).toInt = ((I v0 6).toInt + (1)) := (i_add rfl (show (1 : Int32).toInt = 1 from rfl) (by omega) (by omega)))
          have w_I36 : WD Z I36 := by rw [eI36]; exact WD_putF w_I 3 6 kv0 (by decide) (by decide) trivial
          have f_I36 : FR [(3, 6)] Z I Z I36 := by rw [eI36]; exact FR_putF kv0 (by decide) List.mem_cons_self
          have q_I36 : FR Ws_R3 Z I Z I36 := q_I.trans w_I.1 w_I.2.1 (f_I36.mono (by decide))
          have u38 : (I36 v0 8).toInt = (I v0 8).toInt := by rw [f_I36.2.2.1 v0 3 8 kv0 (by decide) (by decide)]
          first | (have u39 : (I36 v0 6).toInt = ((I v0 6).toInt + (1)) := by (rw [eI36, show jpI I v0 6 ((I v0 6) + (1 : Int32)) v0 6 = ((I v0 6) + (1 : Int32)) from jpI_at] <;> exact (i_add rfl (show (1 : Int32).toInt = 1 from rfl) (by omega) (by omega)))) | skip
          try (have t40 : ((1000 : Int32) + r5).toInt = ((1000) + r5.toInt) := (i_add (show (1000 : Int32).toInt = 1000 from rfl) rfl (by omega) (by omega)))
          refine s_X3_emit w_I36 v0 ((1000 : Int32) + r5) kv0   (fun  I41 L42 w_I41 f_I41  => ?_)
          have q_I41 : FR Ws_R3 Z I Z I41 := q_I36.trans w_I.1 w_I.2.1 (f_I41.mono (by decide))
          have u43 : (I41 v0 8).toInt = (I36 v0 8).toInt := by rw [f_I41.2.2.1 v0 3 8 kv0 (by decide) (by decide)]
          have u44 : (I41 v0 6).toInt = (I36 v0 6).toInt := by rw [f_I41.2.2.1 v0 3 6 kv0 (by decide) (by decide)]
          exact hQ  I41 L42 w_I41 q_I41 
      · skip
        first | (have t45 : ¬ (r8.toInt = (0)) := (not_congr (i_eq rfl (show (0 : Int32).toInt = 0 from rfl))).mp c10) | (have t45 : ¬ (r8.toInt = (0 : Int32).toInt) := (not_congr (i_eq rfl rfl)).mp c10) | skip
        refine s_X3_readNumber w_I v0 v1 kv0 kv1   (fun  I46 L47 w_I46 f_I46  => ?_)
        have q_I46 : FR Ws_R3 Z I Z I46 := q_I.trans w_I.1 w_I.2.1 (f_I46.mono (by decide))
        have u48 : (I46 v0 8).toInt = (I v0 8).toInt := by rw [f_I46.2.2.1 v0 3 8 kv0 (by decide) (by decide)]
        exact hQ  I46 L47 w_I46 q_I46 
    · skip
      first | (have t49 : ¬ ((I v0 8).toInt = (-1)) := (not_congr (i_eq rfl (show (-1 : Int32).toInt = -1 from rfl))).mp c6) | (have t49 : ¬ ((I v0 8).toInt = (-1 : Int32).toInt) := (not_congr (i_eq rfl rfl)).mp c6) | skip
      exact hQ  I L w_I q_I 
  · skip
    first | (have t50 : r1.toInt = (-1) := (i_eq rfl (show (-1 : Int32).toInt = -1 from rfl)).mp c3) | (have t50 : r1.toInt = (-1 : Int32).toInt := (i_eq rfl rfl).mp c3) | skip
    unfold fs_X3_readThing_b22
    refine ⟨fun c51 => ?_, fun c51 => ?_⟩
    · skip
      first | (have t52 : (I v0 8).toInt = (-1) := (i_eq rfl (show (-1 : Int32).toInt = -1 from rfl)).mp c51) | (have t52 : (I v0 8).toInt = (-1 : Int32).toInt := (i_eq rfl rfl).mp c51) | skip
      refine s_X10_isDigit w_I r1    (fun r53 p54 => ?_)
      have rr53 := i_rng r53
      refine ⟨fun c55 => ?_, fun c55 => ?_⟩
      · skip
        first | (have t56 : r53.toInt = (0) := (i_eq rfl (show (0 : Int32).toInt = 0 from rfl)).mp c55) | (have t56 : r53.toInt = (0 : Int32).toInt := (i_eq rfl rfl).mp c55) | skip
        refine ⟨fun c57 => ?_, fun c57 => ?_⟩
        · skip
          first | (have t58 : (-1) < (0) := (i_lt (show (-1 : Int32).toInt = -1 from rfl) (show (0 : Int32).toInt = 0 from rfl)).mp c57) | (have t58 : (-1 : Int32).toInt < (0 : Int32).toInt := (i_lt rfl rfl).mp c57) | skip
          refine ⟨fun c59 => ?_, fun c59 => ?_⟩
          · skip
            first | (have t60 : ¬ (r1.toInt = (40)) := (not_congr (i_eq rfl (show (40 : Int32).toInt = 40 from rfl))).mp c59) | (have t60 : ¬ (r1.toInt = (40 : Int32).toInt) := (not_congr (i_eq rfl rfl)).mp c59) | skip
            unfold fs_X3_readThing_b113
            intro I61 eI61
            have w_I61 : WD Z I61 := by rw [eI61]; exact WD_putF w_I 3 8 kv0 (by decide) (by decide) trivial
            have f_I61 : FR [(3, 8)] Z I Z I61 := by rw [eI61]; exact FR_putF kv0 (by decide) List.mem_cons_self
            have q_I61 : FR Ws_R3 Z I Z I61 := q_I.trans w_I.1 w_I.2.1 (f_I61.mono (by decide))
            have u62 : (I61 v0 6).toInt = (I v0 6).toInt := by rw [f_I61.2.2.1 v0 3 6 kv0 (by decide) (by decide)]
            first | (have u63 : (I61 v0 8).toInt = (I v0 6).toInt := by (rw [eI61, show jpI I v0 8 (I v0 6) v0 8 = (I v0 6) from jpI_at] <;> exact rfl)) | skip
            exact hQ  I61 L w_I61 q_I61 
          · skip
            first | (have t64 : r1.toInt = (40) := (i_eq rfl (show (40 : Int32).toInt = 40 from rfl)).mp c59) | (have t64 : r1.toInt = (40 : Int32).toInt := (i_eq rfl rfl).mp c59) | skip
            refine ⟨fun c65 => ?_, fun c65 => ?_⟩
            · skip
              first | (have t66 : (4) ≤ v2.toInt := (i_le (show (4 : Int32).toInt = 4 from rfl) rfl).mp c65) | (have t66 : (4 : Int32).toInt ≤ v2.toInt := (i_le rfl rfl).mp c65) | skip
              unfold fs_X3_readThing_b113
              intro I67 eI67
              have w_I67 : WD Z I67 := by rw [eI67]; exact WD_putF w_I 3 8 kv0 (by decide) (by decide) trivial
              have f_I67 : FR [(3, 8)] Z I Z I67 := by rw [eI67]; exact FR_putF kv0 (by decide) List.mem_cons_self
              have q_I67 : FR Ws_R3 Z I Z I67 := q_I.trans w_I.1 w_I.2.1 (f_I67.mono (by decide))
              have u68 : (I67 v0 6).toInt = (I v0 6).toInt := by rw [f_I67.2.2.1 v0 3 6 kv0 (by decide) (by decide)]
              first | (have u69 : (I67 v0 8).toInt = (I v0 6).toInt := by (rw [eI67, show jpI I v0 8 (I v0 6) v0 8 = (I v0 6) from jpI_at] <;> exact rfl)) | skip
              exact hQ  I67 L w_I67 q_I67 
            · skip
              first | (have t70 : ¬ ((4) ≤ v2.toInt) := (not_congr (i_le (show (4 : Int32).toInt = 4 from rfl) rfl)).mp c65) | (have t70 : ¬ ((4 : Int32).toInt ≤ v2.toInt) := (not_congr (i_le rfl rfl)).mp c65) | skip
              intro I71 eI71
              try (have t72 : ((I v0 6) + (1 : Int32)).toInt = ((I v0 6).toInt + (1)) := (i_add rfl (show (1 : Int32).toInt = 1 from rfl) (by omega) (by omega)))
              have w_I71 : WD Z I71 := by rw [eI71]; exact WD_putF w_I 3 6 kv0 (by decide) (by decide) trivial
              have f_I71 : FR [(3, 6)] Z I Z I71 := by rw [eI71]; exact FR_putF kv0 (by decide) List.mem_cons_self
              have q_I71 : FR Ws_R3 Z I Z I71 := q_I.trans w_I.1 w_I.2.1 (f_I71.mono (by decide))
              have u73 : (I71 v0 8).toInt = (I v0 8).toInt := by rw [f_I71.2.2.1 v0 3 8 kv0 (by decide) (by decide)]
              first | (have u74 : (I71 v0 6).toInt = ((I v0 6).toInt + (1)) := by (rw [eI71, show jpI I v0 6 ((I v0 6) + (1 : Int32)) v0 6 = ((I v0 6) + (1 : Int32)) from jpI_at] <;> exact (i_add rfl (show (1 : Int32).toInt = 1 from rfl) (by omega) (by omega)))) | skip
              try (have t75 : (v2 + (1 : Int32)).toInt = (v2.toInt + (1)) := (i_add rfl (show (1 : Int32).toInt = 1 from rfl) (by omega) (by omega)))
              refine hF 0 (by decide) Z I71 L w_I71 v0 v1 (v2 + (1 : Int32)) kv0 kv1 (by omega) (by omega) _ (fun I76 L77 w_I76 f_I76 => ?_)
              have q_I76 : FR Ws_R3 Z I Z I76 := q_I71.trans w_I.1 w_I.2.1 (f_I76.mono (by decide))
              refine s_X3_readClosing w_I76 v0 v1 kv0 kv1   (fun  I78 L79 w_I78 f_I78  => ?_)
              have q_I78 : FR Ws_R3 Z I Z I78 := q_I76.trans w_I.1 w_I.2.1 (f_I78.mono (by decide))
              exact hQ  I78 L79 w_I78 q_I78 
        · skip
          first | (have t80 : ¬ ((-1) < (0)) := (not_congr (i_lt (show (-1 : Int32).toInt = -1 from rfl) (show (0 : Int32).toInt = 0 from rfl))).mp c57) | (have t80 : ¬ ((-1 : Int32).toInt < (0 : Int32).toInt) := (not_congr (i_lt rfl rfl)).mp c57) | skip
          intro I81 eI81
          try (have t82 : ((I v0 6) + (1 : Int32)).toInt = ((I v0 6).toInt + (1)) := (i_add rfl (show (1 : Int32).toInt = 1 from rfl) (by omega) (by omega)))
          have w_I81 : WD Z I81 := by rw [eI81]; exact WD_putF w_I 3 6 kv0 (by decide) (by decide) trivial
          have f_I81 : FR [(3, 6)] Z I Z I81 := by rw [eI81]; exact FR_putF kv0 (by decide) List.mem_cons_self
          have q_I81 : FR Ws_R3 Z I Z I81 := q_I.trans w_I.1 w_I.2.1 (f_I81.mono (by decide))
          have u83 : (I81 v0 8).toInt = (I v0 8).toInt := by rw [f_I81.2.2.1 v0 3 8 kv0 (by decide) (by decide)]
          first | (have u84 : (I81 v0 6).toInt = ((I v0 6).toInt + (1)) := by (rw [eI81, show jpI I v0 6 ((I v0 6) + (1 : Int32)) v0 6 = ((I v0 6) + (1 : Int32)) from jpI_at] <;> exact (i_add rfl (show (1 : Int32).toInt = 1 from rfl) (by omega) (by omega)))) | skip
          try (have t85 : ((1000 : Int32) + (-1 : Int32)).toInt = ((1000) + (-1)) := (i_add (show (1000 : Int32).toInt = 1000 from rfl) (show (-1 : Int32).toInt = -1 from rfl) (by omega) (by omega)))
          refine s_X3_emit w_I81 v0 ((1000 : Int32) + (-1 : Int32)) kv0   (fun  I86 L87 w_I86 f_I86  => ?_)
          have q_I86 : FR Ws_R3 Z I Z I86 := q_I81.trans w_I.1 w_I.2.1 (f_I86.mono (by decide))
          have u88 : (I86 v0 8).toInt = (I81 v0 8).toInt := by rw [f_I86.2.2.1 v0 3 8 kv0 (by decide) (by decide)]
          have u89 : (I86 v0 6).toInt = (I81 v0 6).toInt := by rw [f_I86.2.2.1 v0 3 6 kv0 (by decide) (by decide)]
          exact hQ  I86 L87 w_I86 q_I86 
      · skip
        first | (have t90 : ¬ (r53.toInt = (0)) := (not_congr (i_eq rfl (show (0 : Int32).toInt = 0 from rfl))).mp c55) | (have t90 : ¬ (r53.toInt = (0 : Int32).toInt) := (not_congr (i_eq rfl rfl)).mp c55) | skip
        refine s_X3_readNumber w_I v0 v1 kv0 kv1   (fun  I91 L92 w_I91 f_I91  => ?_)
        have q_I91 : FR Ws_R3 Z I Z I91 := q_I.trans w_I.1 w_I.2.1 (f_I91.mono (by decide))
        have u93 : (I91 v0 8).toInt = (I v0 8).toInt := by rw [f_I91.2.2.1 v0 3 8 kv0 (by decide) (by decide)]
        exact hQ  I91 L92 w_I91 q_I91 
    · skip
      first | (have t94 : ¬ ((I v0 8).toInt = (-1)) := (not_congr (i_eq rfl (show (-1 : Int32).toInt = -1 from rfl))).mp c51) | (have t94 : ¬ ((I v0 8).toInt = (-1 : Int32).toInt) := (not_congr (i_eq rfl rfl)).mp c51) | skip
      exact hQ  I L w_I q_I 
set_option maxHeartbeats 4000000 in
set_option maxRecDepth 100000 in
theorem l_X3_readSigned_L5 {d : Nat} {F : FTR3} (hF : HS3 d F) {Z : jZ} {I0 : jI} {Q : jI → jL → Prop} (w0 : WD Z I0) (v0 : Nat) (v1 : Nat) (v2 : Int32) (kv0 : jk Z v0 3) (kv1 : jk Z v1 10) (p0 : 5 * (5 - v2.toInt) - 3 ≤ (d : Int) + 1 ∧ 0 ≤ v2.toInt ∧ v2.toInt ≤ 4) (hQ : ∀  (I' : jI) (L' : jL), WD Z I' → FR Ws_R3 Z I0 Z I' → Q I' L') : ∀ (n : Nat) (v3 : Int32) (v4 : Int32) (I : jI) (L : jL), WD Z I → FR Ws_R3 Z I0 Z I →   (0 ≤ v4.toInt ∧ v4.toInt ≤ 40) → 40 - v4.toInt < (n : Int) → fs_X3_readSigned_L5 F  Z Q n v0 v1 v2 v3 v4 I L := by
  intro n
  induction n with
  | zero =>
    intro v3 v4 I L w_I q_I   li  me
    exfalso
    omega
  | succ n ih =>
    intro v3 v4 I L w_I q_I   li  me
    unfold fs_X3_readSigned_L5
    have rv3 := i_rng v3
    have rv4 := i_rng v4
    have rv2 := i_rng v2
    refine ⟨fun c1 => ?_, fun c1 => ?_⟩
    · skip
      first | (have t2 : (40) ≤ v4.toInt := (i_le (show (40 : Int32).toInt = 40 from rfl) rfl).mp c1) | (have t2 : (40 : Int32).toInt ≤ v4.toInt := (i_le rfl rfl).mp c1) | skip
      unfold fs_X3_readSigned_b50
      refine hF 4 (by decide) Z I L w_I v0 v1 v2 kv0 kv1 (by omega) (by omega) _ (fun I3 L4 w_I3 f_I3 => ?_)
      have q_I3 : FR Ws_R3 Z I0 Z I3 := q_I.trans w0.1 w0.2.1 (f_I3.mono (by decide))
      refine ⟨fun c5 => ?_, fun c5 => ?_⟩
      · skip
        first | (have t6 : v3.toInt = (0) := (i_eq rfl (show (0 : Int32).toInt = 0 from rfl)).mp c5) | (have t6 : v3.toInt = (0 : Int32).toInt := (i_eq rfl rfl).mp c5) | skip
        exact hQ  I3 L4 w_I3 q_I3 
      · skip
        first | (have t7 : ¬ (v3.toInt = (0)) := (not_congr (i_eq rfl (show (0 : Int32).toInt = 0 from rfl))).mp c5) | (have t7 : ¬ (v3.toInt = (0 : Int32).toInt) := (not_congr (i_eq rfl rfl)).mp c5) | skip
        have t8 : (2000 : Int32).toInt = 2000 := rfl
        refine s_X3_emit w_I3 v0 (2000 : Int32) kv0   (fun  I9 L10 w_I9 f_I9  => ?_)
        have q_I9 : FR Ws_R3 Z I0 Z I9 := q_I3.trans w0.1 w0.2.1 (f_I9.mono (by decide))
        exact hQ  I9 L10 w_I9 q_I9 
    · skip
      first | (have t11 : ¬ ((40) ≤ v4.toInt) := (not_congr (i_le (show (40 : Int32).toInt = 40 from rfl) rfl)).mp c1) | (have t11 : ¬ ((40 : Int32).toInt ≤ v4.toInt) := (not_congr (i_le rfl rfl)).mp c1) | skip
      have t12 : (45 : Int32).toInt = 45 := rfl
      have t13 : (45 : Int32).toInt = 45 := rfl
      refine s_X3_isAhead w_I v0 v1 (45 : Int32) (45 : Int32) kv0 kv1   (fun r14  => ?_)
      have rr14 := i_rng r14
      refine ⟨fun c15 => ?_, fun c15 => ?_⟩
      · skip
        first | (have t16 : r14.toInt = (0) := (i_eq rfl (show (0 : Int32).toInt = 0 from rfl)).mp c15) | (have t16 : r14.toInt = (0 : Int32).toInt := (i_eq rfl rfl).mp c15) | skip
        unfold fs_X3_readSigned_b50
        refine hF 4 (by decide) Z I L w_I v0 v1 v2 kv0 kv1 (by omega) (by omega) _ (fun I17 L18 w_I17 f_I17 => ?_)
        have q_I17 : FR Ws_R3 Z I0 Z I17 := q_I.trans w0.1 w0.2.1 (f_I17.mono (by decide))
        refine ⟨fun c19 => ?_, fun c19 => ?_⟩
        · skip
          first | (have t20 : v3.toInt = (0) := (i_eq rfl (show (0 : Int32).toInt = 0 from rfl)).mp c19) | (have t20 : v3.toInt = (0 : Int32).toInt := (i_eq rfl rfl).mp c19) | skip
          exact hQ  I17 L18 w_I17 q_I17 
        · skip
          first | (have t21 : ¬ (v3.toInt = (0)) := (not_congr (i_eq rfl (show (0 : Int32).toInt = 0 from rfl))).mp c19) | (have t21 : ¬ (v3.toInt = (0 : Int32).toInt) := (not_congr (i_eq rfl rfl)).mp c19) | skip
          have t22 : (2000 : Int32).toInt = 2000 := rfl
          refine s_X3_emit w_I17 v0 (2000 : Int32) kv0   (fun  I23 L24 w_I23 f_I23  => ?_)
          have q_I23 : FR Ws_R3 Z I0 Z I23 := q_I17.trans w0.1 w0.2.1 (f_I23.mono (by decide))
          exact hQ  I23 L24 w_I23 q_I23 
      · skip
        first | (have t25 : ¬ (r14.toInt = (0)) := (not_congr (i_eq rfl (show (0 : Int32).toInt = 0 from rfl))).mp c15) | (have t25 : ¬ (r14.toInt = (0 : Int32).toInt) := (not_congr (i_eq rfl rfl)).mp c15) | skip
        refine ⟨fun c26 => ?_, fun c26 => ?_⟩
        · skip
          first | (have t27 : ¬ (v3.toInt = (0)) := (not_congr (i_eq rfl (show (0 : Int32).toInt = 0 from rfl))).mp c26) | (have t27 : ¬ (v3.toInt = (0 : Int32).toInt) := (not_congr (i_eq rfl rfl)).mp c26) | skip
          unfold fs_X3_readSigned_b33
          intro I28 eI28
          try (have t29 : ((I v0 6) + (1 : Int32)).toInt = ((I v0 6).toInt + (1)) := (i_add rfl (show (1 : Int32).toInt = 1 from rfl) (by omega) (by omega)))
          have w_I28 : WD Z I28 := by rw [eI28]; exact WD_putF w_I 3 6 kv0 (by decide) (by decide) trivial
          have f_I28 : FR [(3, 6)] Z I Z I28 := by rw [eI28]; exact FR_putF kv0 (by decide) List.mem_cons_self
          have q_I28 : FR Ws_R3 Z I0 Z I28 := q_I.trans w0.1 w0.2.1 (f_I28.mono (by decide))
          first | (have u30 : (I28 v0 6).toInt = ((I v0 6).toInt + (1)) := by (rw [eI28, show jpI I v0 6 ((I v0 6) + (1 : Int32)) v0 6 = ((I v0 6) + (1 : Int32)) from jpI_at] <;> exact (i_add rfl (show (1 : Int32).toInt = 1 from rfl) (by omega) (by omega)))) | skip
          intro x31 ex31
          have rx31 := i_rng x31
          first | (have tx31 : x31.toInt = v4.toInt + (1) := by (rw [ex31]; exact (i_add rfl (show (1 : Int32).toInt = 1 from rfl) (by omega) (by omega)))) | skip
          have t32 : (0 : Int32).toInt = 0 := rfl
          exact ih (0 : Int32) x31 I28 L w_I28 q_I28   (by omega)  (by omega)
        · skip
          first | (have t33 : v3.toInt = (0) := (i_eq rfl (show (0 : Int32).toInt = 0 from rfl)).mp c26) | (have t33 : v3.toInt = (0 : Int32).toInt := (i_eq rfl rfl).mp c26) | skip
          unfold fs_X3_readSigned_b33
          intro I34 eI34
          try (have t35 : ((I v0 6) + (1 : Int32)).toInt = ((I v0 6).toInt + (1)) := (i_add rfl (show (1 : Int32).toInt = 1 from rfl) (by omega) (by omega)))
          have w_I34 : WD Z I34 := by rw [eI34]; exact WD_putF w_I 3 6 kv0 (by decide) (by decide) trivial
          have f_I34 : FR [(3, 6)] Z I Z I34 := by rw [eI34]; exact FR_putF kv0 (by decide) List.mem_cons_self
          have q_I34 : FR Ws_R3 Z I0 Z I34 := q_I.trans w0.1 w0.2.1 (f_I34.mono (by decide))
          first | (have u36 : (I34 v0 6).toInt = ((I v0 6).toInt + (1)) := by (rw [eI34, show jpI I v0 6 ((I v0 6) + (1 : Int32)) v0 6 = ((I v0 6) + (1 : Int32)) from jpI_at] <;> exact (i_add rfl (show (1 : Int32).toInt = 1 from rfl) (by omega) (by omega)))) | skip
          intro x37 ex37
          have rx37 := i_rng x37
          first | (have tx37 : x37.toInt = v4.toInt + (1) := by (rw [ex37]; exact (i_add rfl (show (1 : Int32).toInt = 1 from rfl) (by omega) (by omega)))) | skip
          have t38 : (1 : Int32).toInt = 1 := rfl
          exact ih (1 : Int32) x37 I34 L w_I34 q_I34   (by omega)  (by omega)
set_option maxHeartbeats 4000000 in
set_option maxRecDepth 100000 in
theorem s_X3_readSigned {d : Nat} {F : FTR3} (hF : HS3 d F) {Z : jZ} {I : jI} {L : jL} (w_I : WD Z I) (v0 : Nat) (v1 : Nat) (v2 : Int32) (kv0 : jk Z v0 3) (kv1 : jk Z v1 10) (p0 : 5 * (5 - v2.toInt) - 3 ≤ (d : Int) + 1 ∧ 0 ≤ v2.toInt ∧ v2.toInt ≤ 4) {Q : jI → jL → Prop} (hQ : ∀  (I' : jI) (L' : jL), WD Z I' → FR Ws_R3 Z I Z I' → Q I' L') : fs_X3_readSigned F v0 v1 v2 Z I L Q := by
  unfold fs_X3_readSigned
  have q_I : FR Ws_R3 Z I Z I := FR.rf
  have rv2 := i_rng v2
  have t39 : (0 : Int32).toInt = 0 := rfl
  have t40 : (0 : Int32).toInt = 0 := rfl
  exact ⟨(40 - (0 : Int32).toInt).toNat + 1, l_X3_readSigned_L5 hF w_I v0 v1 v2 kv0 kv1 p0   hQ   _ (0 : Int32) (0 : Int32) I L w_I q_I   (by omega)  (by omega)⟩
set_option maxHeartbeats 4000000 in
set_option maxRecDepth 100000 in
theorem l_X3_readProduct_L8 {d : Nat} {F : FTR3} (hF : HS3 d F) {Z : jZ} {I0 : jI} {Q : jI → jL → Prop} (w0 : WD Z I0) (v0 : Nat) (v1 : Nat) (v2 : Int32) (kv0 : jk Z v0 3) (kv1 : jk Z v1 10) (p0 : 5 * (5 - v2.toInt) - 2 ≤ (d : Int) + 1 ∧ 0 ≤ v2.toInt ∧ v2.toInt ≤ 4) (hQ : ∀  (I' : jI) (L' : jL), WD Z I' → FR Ws_R3 Z I0 Z I' → Q I' L') : ∀ (n : Nat) (v3 : Int32) (I : jI) (L : jL), WD Z I → FR Ws_R3 Z I0 Z I →   (0 ≤ v3.toInt ∧ v3.toInt ≤ 40) → 40 - v3.toInt < (n : Int) → fs_X3_readProduct_L8 F  Z Q n v0 v1 v2 v3 I L := by
  intro n
  induction n with
  | zero =>
    intro v3 I L w_I q_I   li  me
    exfalso
    omega
  | succ n ih =>
    intro v3 I L w_I q_I   li  me
    unfold fs_X3_readProduct_L8
    have rv3 := i_rng v3
    have rv2 := i_rng v2
    refine ⟨fun c1 => ?_, fun c1 => ?_⟩
    · skip
      first | (have t2 : (40) ≤ v3.toInt := (i_le (show (40 : Int32).toInt = 40 from rfl) rfl).mp c1) | (have t2 : (40 : Int32).toInt ≤ v3.toInt := (i_le rfl rfl).mp c1) | skip
      exact hQ  I L w_I q_I 
    · skip
      first | (have t3 : ¬ ((40) ≤ v3.toInt) := (not_congr (i_le (show (40 : Int32).toInt = 40 from rfl) rfl)).mp c1) | (have t3 : ¬ ((40 : Int32).toInt ≤ v3.toInt) := (not_congr (i_le rfl rfl)).mp c1) | skip
      have t4 : (42 : Int32).toInt = 42 := rfl
      have t5 : (47 : Int32).toInt = 47 := rfl
      refine s_X3_isAhead w_I v0 v1 (42 : Int32) (47 : Int32) kv0 kv1   (fun r6  => ?_)
      have rr6 := i_rng r6
      refine ⟨fun c7 => ?_, fun c7 => ?_⟩
      · skip
        first | (have t8 : r6.toInt = (0) := (i_eq rfl (show (0 : Int32).toInt = 0 from rfl)).mp c7) | (have t8 : r6.toInt = (0 : Int32).toInt := (i_eq rfl rfl).mp c7) | skip
        exact hQ  I L w_I q_I 
      · skip
        first | (have t9 : ¬ (r6.toInt = (0)) := (not_congr (i_eq rfl (show (0 : Int32).toInt = 0 from rfl))).mp c7) | (have t9 : ¬ (r6.toInt = (0 : Int32).toInt) := (not_congr (i_eq rfl rfl)).mp c7) | skip
        refine s_X3_look w_I v0 v1 kv0 kv1   (fun r10 p11 => ?_)
        have rr10 := i_rng r10
        intro I12 eI12
        try (have t13 : ((I v0 6) + (1 : Int32)).toInt = ((I v0 6).toInt + (1)) := (i_add rfl (show (1 : Int32).toInt = 1 from rfl) (by omega) (by omega)))
        have w_I12 : WD Z I12 := by rw [eI12]; exact WD_putF w_I 3 6 kv0 (by decide) (by decide) trivial
        have f_I12 : FR [(3, 6)] Z I Z I12 := by rw [eI12]; exact FR_putF kv0 (by decide) List.mem_cons_self
        have q_I12 : FR Ws_R3 Z I0 Z I12 := q_I.trans w0.1 w0.2.1 (f_I12.mono (by decide))
        first | (have u14 : (I12 v0 6).toInt = ((I v0 6).toInt + (1)) := by (rw [eI12, show jpI I v0 6 ((I v0 6) + (1 : Int32)) v0 6 = ((I v0 6) + (1 : Int32)) from jpI_at] <;> exact (i_add rfl (show (1 : Int32).toInt = 1 from rfl) (by omega) (by omega)))) | skip
        refine hF 3 (by decide) Z I12 L w_I12 v0 v1 v2 kv0 kv1 (by omega) (by omega) _ (fun I15 L16 w_I15 f_I15 => ?_)
        have q_I15 : FR Ws_R3 Z I0 Z I15 := q_I12.trans w0.1 w0.2.1 (f_I15.mono (by decide))
        try (have t17 : ((2000 : Int32) + r10).toInt = ((2000) + r10.toInt) := (i_add (show (2000 : Int32).toInt = 2000 from rfl) rfl (by omega) (by omega)))
        refine s_X3_emit w_I15 v0 ((2000 : Int32) + r10) kv0   (fun  I18 L19 w_I18 f_I18  => ?_)
        have q_I18 : FR Ws_R3 Z I0 Z I18 := q_I15.trans w0.1 w0.2.1 (f_I18.mono (by decide))
        intro x20 ex20
        have rx20 := i_rng x20
        first | (have tx20 : x20.toInt = v3.toInt + (1) := by (rw [ex20]; exact (i_add rfl (show (1 : Int32).toInt = 1 from rfl) (by omega) (by omega)))) | skip
        exact ih x20 I18 L19 w_I18 q_I18   (by omega)  (by omega)
set_option maxHeartbeats 4000000 in
set_option maxRecDepth 100000 in
theorem s_X3_readProduct {d : Nat} {F : FTR3} (hF : HS3 d F) {Z : jZ} {I : jI} {L : jL} (w_I : WD Z I) (v0 : Nat) (v1 : Nat) (v2 : Int32) (kv0 : jk Z v0 3) (kv1 : jk Z v1 10) (p0 : 5 * (5 - v2.toInt) - 2 ≤ (d : Int) + 1 ∧ 0 ≤ v2.toInt ∧ v2.toInt ≤ 4) {Q : jI → jL → Prop} (hQ : ∀  (I' : jI) (L' : jL), WD Z I' → FR Ws_R3 Z I Z I' → Q I' L') : fs_X3_readProduct F v0 v1 v2 Z I L Q := by
  unfold fs_X3_readProduct
  have q_I : FR Ws_R3 Z I Z I := FR.rf
  have rv2 := i_rng v2
  refine hF 3 (by decide) Z I L w_I v0 v1 v2 kv0 kv1 (by omega) (by omega) _ (fun I21 L22 w_I21 f_I21 => ?_)
  have q_I21 : FR Ws_R3 Z I Z I21 := q_I.trans w_I.1 w_I.2.1 (f_I21.mono (by decide))
  have t23 : (0 : Int32).toInt = 0 := rfl
  exact ⟨(40 - (0 : Int32).toInt).toNat + 1, l_X3_readProduct_L8 hF w_I v0 v1 v2 kv0 kv1 p0   hQ   _ (0 : Int32) I21 L22 w_I21 q_I21   (by omega)  (by omega)⟩
set_option maxHeartbeats 4000000 in
set_option maxRecDepth 100000 in
theorem l_X3_readSum_L8 {d : Nat} {F : FTR3} (hF : HS3 d F) {Z : jZ} {I0 : jI} {Q : jI → jL → Prop} (w0 : WD Z I0) (v0 : Nat) (v1 : Nat) (v2 : Int32) (kv0 : jk Z v0 3) (kv1 : jk Z v1 10) (p0 : 5 * (5 - v2.toInt) - 1 ≤ (d : Int) + 1 ∧ 0 ≤ v2.toInt ∧ v2.toInt ≤ 4) (hQ : ∀  (I' : jI) (L' : jL), WD Z I' → FR Ws_R3 Z I0 Z I' → Q I' L') : ∀ (n : Nat) (v3 : Int32) (I : jI) (L : jL), WD Z I → FR Ws_R3 Z I0 Z I →   (0 ≤ v3.toInt ∧ v3.toInt ≤ 40) → 40 - v3.toInt < (n : Int) → fs_X3_readSum_L8 F  Z Q n v0 v1 v2 v3 I L := by
  intro n
  induction n with
  | zero =>
    intro v3 I L w_I q_I   li  me
    exfalso
    omega
  | succ n ih =>
    intro v3 I L w_I q_I   li  me
    unfold fs_X3_readSum_L8
    have rv3 := i_rng v3
    have rv2 := i_rng v2
    refine ⟨fun c1 => ?_, fun c1 => ?_⟩
    · skip
      first | (have t2 : (40) ≤ v3.toInt := (i_le (show (40 : Int32).toInt = 40 from rfl) rfl).mp c1) | (have t2 : (40 : Int32).toInt ≤ v3.toInt := (i_le rfl rfl).mp c1) | skip
      exact hQ  I L w_I q_I 
    · skip
      first | (have t3 : ¬ ((40) ≤ v3.toInt) := (not_congr (i_le (show (40 : Int32).toInt = 40 from rfl) rfl)).mp c1) | (have t3 : ¬ ((40 : Int32).toInt ≤ v3.toInt) := (not_congr (i_le rfl rfl)).mp c1) | skip
      have t4 : (43 : Int32).toInt = 43 := rfl
      have t5 : (45 : Int32).toInt = 45 := rfl
      refine s_X3_isAhead w_I v0 v1 (43 : Int32) (45 : Int32) kv0 kv1   (fun r6  => ?_)
      have rr6 := i_rng r6
      refine ⟨fun c7 => ?_, fun c7 => ?_⟩
      · skip
        first | (have t8 : r6.toInt = (0) := (i_eq rfl (show (0 : Int32).toInt = 0 from rfl)).mp c7) | (have t8 : r6.toInt = (0 : Int32).toInt := (i_eq rfl rfl).mp c7) | skip
        exact hQ  I L w_I q_I 
      · skip
        first | (have t9 : ¬ (r6.toInt = (0)) := (not_congr (i_eq rfl (show (0 : Int32).toInt = 0 from rfl))).mp c7) | (have t9 : ¬ (r6.toInt = (0 : Int32).toInt) := (not_congr (i_eq rfl rfl)).mp c7) | skip
        refine s_X3_look w_I v0 v1 kv0 kv1   (fun r10 p11 => ?_)
        have rr10 := i_rng r10
        intro I12 eI12
        try (have t13 : ((I v0 6) + (1 : Int32)).toInt = ((I v0 6).toInt + (1)) := (i_add rfl (show (1 : Int32).toInt = 1 from rfl) (by omega) (by omega)))
        have w_I12 : WD Z I12 := by rw [eI12]; exact WD_putF w_I 3 6 kv0 (by decide) (by decide) trivial
        have f_I12 : FR [(3, 6)] Z I Z I12 := by rw [eI12]; exact FR_putF kv0 (by decide) List.mem_cons_self
        have q_I12 : FR Ws_R3 Z I0 Z I12 := q_I.trans w0.1 w0.2.1 (f_I12.mono (by decide))
        first | (have u14 : (I12 v0 6).toInt = ((I v0 6).toInt + (1)) := by (rw [eI12, show jpI I v0 6 ((I v0 6) + (1 : Int32)) v0 6 = ((I v0 6) + (1 : Int32)) from jpI_at] <;> exact (i_add rfl (show (1 : Int32).toInt = 1 from rfl) (by omega) (by omega)))) | skip
        refine hF 2 (by decide) Z I12 L w_I12 v0 v1 v2 kv0 kv1 (by omega) (by omega) _ (fun I15 L16 w_I15 f_I15 => ?_)
        have q_I15 : FR Ws_R3 Z I0 Z I15 := q_I12.trans w0.1 w0.2.1 (f_I15.mono (by decide))
        try (have t17 : ((2000 : Int32) + r10).toInt = ((2000) + r10.toInt) := (i_add (show (2000 : Int32).toInt = 2000 from rfl) rfl (by omega) (by omega)))
        refine s_X3_emit w_I15 v0 ((2000 : Int32) + r10) kv0   (fun  I18 L19 w_I18 f_I18  => ?_)
        have q_I18 : FR Ws_R3 Z I0 Z I18 := q_I15.trans w0.1 w0.2.1 (f_I18.mono (by decide))
        intro x20 ex20
        have rx20 := i_rng x20
        first | (have tx20 : x20.toInt = v3.toInt + (1) := by (rw [ex20]; exact (i_add rfl (show (1 : Int32).toInt = 1 from rfl) (by omega) (by omega)))) | skip
        exact ih x20 I18 L19 w_I18 q_I18   (by omega)  (by omega)
set_option maxHeartbeats 4000000 in
set_option maxRecDepth 100000 in
theorem s_X3_readSum {d : Nat} {F : FTR3} (hF : HS3 d F) {Z : jZ} {I : jI} {L : jL} (w_I : WD Z I) (v0 : Nat) (v1 : Nat) (v2 : Int32) (kv0 : jk Z v0 3) (kv1 : jk Z v1 10) (p0 : 5 * (5 - v2.toInt) - 1 ≤ (d : Int) + 1 ∧ 0 ≤ v2.toInt ∧ v2.toInt ≤ 4) {Q : jI → jL → Prop} (hQ : ∀  (I' : jI) (L' : jL), WD Z I' → FR Ws_R3 Z I Z I' → Q I' L') : fs_X3_readSum F v0 v1 v2 Z I L Q := by
  unfold fs_X3_readSum
  have q_I : FR Ws_R3 Z I Z I := FR.rf
  have rv2 := i_rng v2
  refine hF 2 (by decide) Z I L w_I v0 v1 v2 kv0 kv1 (by omega) (by omega) _ (fun I21 L22 w_I21 f_I21 => ?_)
  have q_I21 : FR Ws_R3 Z I Z I21 := q_I.trans w_I.1 w_I.2.1 (f_I21.mono (by decide))
  have t23 : (0 : Int32).toInt = 0 := rfl
  exact ⟨(40 - (0 : Int32).toInt).toNat + 1, l_X3_readSum_L8 hF w_I v0 v1 v2 kv0 kv1 p0   hQ   _ (0 : Int32) I21 L22 w_I21 q_I21   (by omega)  (by omega)⟩
set_option maxHeartbeats 4000000 in
set_option maxRecDepth 100000 in
theorem s_X3_readExpression {d : Nat} {F : FTR3} (hF : HS3 d F) {Z : jZ} {I : jI} {L : jL} (w_I : WD Z I) (v0 : Nat) (v1 : Nat) (v2 : Int32) (kv0 : jk Z v0 3) (kv1 : jk Z v1 10) (p0 : 5 * (5 - v2.toInt) - 0 ≤ (d : Int) + 1 ∧ 0 ≤ v2.toInt ∧ v2.toInt ≤ 4) {Q : jI → jL → Prop} (hQ : ∀  (I' : jI) (L' : jL), WD Z I' → FR Ws_R3 Z I Z I' → Q I' L') : fs_X3_readExpression F v0 v1 v2 Z I L Q := by
  unfold fs_X3_readExpression
  have q_I : FR Ws_R3 Z I Z I := FR.rf
  have rv2 := i_rng v2
  refine hF 1 (by decide) Z I L w_I v0 v1 v2 kv0 kv1 (by omega) (by omega) _ (fun I1 L2 w_I1 f_I1 => ?_)
  have q_I1 : FR Ws_R3 Z I Z I1 := q_I.trans w_I.1 w_I.2.1 (f_I1.mono (by decide))
  have t3 : (60 : Int32).toInt = 60 := rfl
  have t4 : (62 : Int32).toInt = 62 := rfl
  refine s_X3_isAhead w_I1 v0 v1 (60 : Int32) (62 : Int32) kv0 kv1   (fun r5  => ?_)
  have rr5 := i_rng r5
  refine ⟨fun c6 => ?_, fun c6 => ?_⟩
  · skip
    first | (have t7 : ¬ (r5.toInt = (0)) := (not_congr (i_eq rfl (show (0 : Int32).toInt = 0 from rfl))).mp c6) | (have t7 : ¬ (r5.toInt = (0 : Int32).toInt) := (not_congr (i_eq rfl rfl)).mp c6) | skip
    unfold fs_X3_readExpression_b30
    refine s_X3_look w_I1 v0 v1 kv0 kv1   (fun r8 p9 => ?_)
    have rr8 := i_rng r8
    intro I10 eI10
    try (have t11 : ((I1 v0 6) + (1 : Int32)).toInt = ((I1 v0 6).toInt + (1)) := (i_add rfl (show (1 : Int32).toInt = 1 from rfl) (by omega) (by omega)))
    have w_I10 : WD Z I10 := by rw [eI10]; exact WD_putF w_I1 3 6 kv0 (by decide) (by decide) trivial
    have f_I10 : FR [(3, 6)] Z I1 Z I10 := by rw [eI10]; exact FR_putF kv0 (by decide) List.mem_cons_self
    have q_I10 : FR Ws_R3 Z I Z I10 := q_I1.trans w_I.1 w_I.2.1 (f_I10.mono (by decide))
    first | (have u12 : (I10 v0 6).toInt = ((I1 v0 6).toInt + (1)) := by (rw [eI10, show jpI I1 v0 6 ((I1 v0 6) + (1 : Int32)) v0 6 = ((I1 v0 6) + (1 : Int32)) from jpI_at] <;> exact (i_add rfl (show (1 : Int32).toInt = 1 from rfl) (by omega) (by omega)))) | skip
    refine hF 1 (by decide) Z I10 L2 w_I10 v0 v1 v2 kv0 kv1 (by omega) (by omega) _ (fun I13 L14 w_I13 f_I13 => ?_)
    have q_I13 : FR Ws_R3 Z I Z I13 := q_I10.trans w_I.1 w_I.2.1 (f_I13.mono (by decide))
    try (have t15 : ((2000 : Int32) + r8).toInt = ((2000) + r8.toInt) := (i_add (show (2000 : Int32).toInt = 2000 from rfl) rfl (by omega) (by omega)))
    refine s_X3_emit w_I13 v0 ((2000 : Int32) + r8) kv0   (fun  I16 L17 w_I16 f_I16  => ?_)
    have q_I16 : FR Ws_R3 Z I Z I16 := q_I13.trans w_I.1 w_I.2.1 (f_I16.mono (by decide))
    exact hQ  I16 L17 w_I16 q_I16 
  · skip
    first | (have t18 : r5.toInt = (0) := (i_eq rfl (show (0 : Int32).toInt = 0 from rfl)).mp c6) | (have t18 : r5.toInt = (0 : Int32).toInt := (i_eq rfl rfl).mp c6) | skip
    have t19 : (61 : Int32).toInt = 61 := rfl
    have t20 : (61 : Int32).toInt = 61 := rfl
    refine s_X3_isAhead w_I1 v0 v1 (61 : Int32) (61 : Int32) kv0 kv1   (fun r21  => ?_)
    have rr21 := i_rng r21
    refine ⟨fun c22 => ?_, fun c22 => ?_⟩
    · skip
      first | (have t23 : r21.toInt = (0) := (i_eq rfl (show (0 : Int32).toInt = 0 from rfl)).mp c22) | (have t23 : r21.toInt = (0 : Int32).toInt := (i_eq rfl rfl).mp c22) | skip
      exact hQ  I1 L2 w_I1 q_I1 
    · skip
      first | (have t24 : ¬ (r21.toInt = (0)) := (not_congr (i_eq rfl (show (0 : Int32).toInt = 0 from rfl))).mp c22) | (have t24 : ¬ (r21.toInt = (0 : Int32).toInt) := (not_congr (i_eq rfl rfl)).mp c22) | skip
      unfold fs_X3_readExpression_b30
      refine s_X3_look w_I1 v0 v1 kv0 kv1   (fun r25 p26 => ?_)
      have rr25 := i_rng r25
      intro I27 eI27
      try (have t28 : ((I1 v0 6) + (1 : Int32)).toInt = ((I1 v0 6).toInt + (1)) := (i_add rfl (show (1 : Int32).toInt = 1 from rfl) (by omega) (by omega)))
      have w_I27 : WD Z I27 := by rw [eI27]; exact WD_putF w_I1 3 6 kv0 (by decide) (by decide) trivial
      have f_I27 : FR [(3, 6)] Z I1 Z I27 := by rw [eI27]; exact FR_putF kv0 (by decide) List.mem_cons_self
      have q_I27 : FR Ws_R3 Z I Z I27 := q_I1.trans w_I.1 w_I.2.1 (f_I27.mono (by decide))
      first | (have u29 : (I27 v0 6).toInt = ((I1 v0 6).toInt + (1)) := by (rw [eI27, show jpI I1 v0 6 ((I1 v0 6) + (1 : Int32)) v0 6 = ((I1 v0 6) + (1 : Int32)) from jpI_at] <;> exact (i_add rfl (show (1 : Int32).toInt = 1 from rfl) (by omega) (by omega)))) | skip
      refine hF 1 (by decide) Z I27 L2 w_I27 v0 v1 v2 kv0 kv1 (by omega) (by omega) _ (fun I30 L31 w_I30 f_I30 => ?_)
      have q_I30 : FR Ws_R3 Z I Z I30 := q_I27.trans w_I.1 w_I.2.1 (f_I30.mono (by decide))
      try (have t32 : ((2000 : Int32) + r25).toInt = ((2000) + r25.toInt) := (i_add (show (2000 : Int32).toInt = 2000 from rfl) rfl (by omega) (by omega)))
      refine s_X3_emit w_I30 v0 ((2000 : Int32) + r25) kv0   (fun  I33 L34 w_I33 f_I33  => ?_)
      have q_I33 : FR Ws_R3 Z I Z I33 := q_I30.trans w_I.1 w_I.2.1 (f_I33.mono (by decide))
      exact hQ  I33 L34 w_I33 q_I33 
theorem hs3 : ∀ d, HS3 d (fR3 d) := by
  intro d
  induction d with
  | zero =>
    intro w hw Z I L wI v0 v1 v2 k0 k1 h1 h2 Q hQ
    exfalso; omega
  | succ d ih =>
    intro w hw Z I L wI v0 v1 v2 k0 k1 h1 h2 Q hQ
    match w, hw with
    | 0, _ => exact s_X3_readExpression ih wI v0 v1 v2 k0 k1 (by omega) (fun I' L' a b => hQ I' L' a b)
    | 1, _ => exact s_X3_readSum ih wI v0 v1 v2 k0 k1 (by omega) (fun I' L' a b => hQ I' L' a b)
    | 2, _ => exact s_X3_readProduct ih wI v0 v1 v2 k0 k1 (by omega) (fun I' L' a b => hQ I' L' a b)
    | 3, _ => exact s_X3_readSigned ih wI v0 v1 v2 k0 k1 (by omega) (fun I' L' a b => hQ I' L' a b)
    | 4, _ => exact s_X3_readThing ih wI v0 v1 v2 k0 k1 (by omega) (fun I' L' a b => hQ I' L' a b)
def Ws_X3_read : List (Nat × Nat) := [(3, 0), (3, 1), (3, 3), (3, 4), (3, 5), (3, 6), (3, 7), (3, 8)]
set_option maxHeartbeats 4000000 in
set_option maxRecDepth 100000 in
theorem l_X3_read_L122 {Z : jZ} {I0 : jI} {Q : Int32 → jI → jL → Prop} (w0 : WD Z I0) (v0 : Nat) (v1 : Nat) (kv0 : jk Z v0 3) (kv1 : jk Z v1 10) (hQ : ∀ (r : Int32) (I' : jI) (L' : jL), WD Z I' → FR Ws_X3_read Z I0 Z I' → Q r I' L') : ∀ (n : Nat) (v2 : Int32) (I : jI) (L : jL), WD Z I → FR Ws_X3_read Z I0 Z I →   (0 ≤ v2.toInt ∧ v2.toInt ≤ 40) → 40 - v2.toInt < (n : Int) → fs_X3_read_L122  Z Q n v0 v2 I L := by
  intro n
  induction n with
  | zero =>
    intro v2 I L w_I q_I   li  me
    exfalso
    omega
  | succ n ih =>
    intro v2 I L w_I q_I   li  me
    unfold fs_X3_read_L122
    have rv2 := i_rng v2
    have t2 : 0 ≤ (I v0 3).toInt ∧ (I v0 3).toInt ≤ 40 := w_I.fld 3 3 kv0 (by decide)
    refine ⟨fun c3 => ?_, fun c3 => ?_⟩
    · skip
      first | (have t4 : (I v0 3).toInt ≤ v2.toInt := (i_le rfl rfl).mp c3) | (have t4 : (I v0 3).toInt ≤ v2.toInt := (i_le rfl rfl).mp c3) | skip
      have t5 : (0 : Int32).toInt = 0 := rfl
      exact hQ (0 : Int32) I L w_I q_I 
    · skip
      first | (have t6 : ¬ ((I v0 3).toInt ≤ v2.toInt) := (not_congr (i_le rfl rfl)).mp c3) | (have t6 : ¬ ((I v0 3).toInt ≤ v2.toInt) := (not_congr (i_le rfl rfl)).mp c3) | skip
      intro b7 eb7
      obtain ⟨x8, ex8, kb7, lb7⟩ := sh_f w_I.1 kv0 (j := 0) (k := 14) (m := 40) rfl
      cases eb7.symm.trans ex8
      have o9 : vp_in v2 40 := vi_of rfl (by omega) (by omega)
      refine ⟨o9, ?_⟩
      refine ⟨fun c10 => ?_, fun c10 => ?_⟩
      · skip
        first | (have t11 : (I b7 v2.toNatClampNeg).toInt < (1000) := (i_lt rfl (show (1000 : Int32).toInt = 1000 from rfl)).mp c10) | (have t11 : (I b7 v2.toNatClampNeg).toInt < (1000 : Int32).toInt := (i_lt rfl rfl).mp c10) | skip
        unfold fs_X3_read_b174
        unfold fs_X3_read_b175
        intro I12 eI12
        have w_I12 : WD Z I12 := by rw [eI12]; exact WD_putF w_I 3 4 kv0 (by decide) (by decide) trivial
        have f_I12 : FR [(3, 4)] Z I Z I12 := by rw [eI12]; exact FR_putF kv0 (by decide) List.mem_cons_self
        have q_I12 : FR Ws_X3_read Z I0 Z I12 := q_I.trans w0.1 w0.2.1 (f_I12.mono (by decide))
        have u13 : (I12 v0 3).toInt = (I v0 3).toInt := by rw [f_I12.2.2.1 v0 3 3 kv0 (by decide) (by decide)]
        first | (have u14 : (I12 v0 4).toInt = ((I v0 4) ||| (0 : Int32)).toInt := by (rw [eI12, show jpI I v0 4 ((I v0 4) ||| (0 : Int32)) v0 4 = ((I v0 4) ||| (0 : Int32)) from jpI_at] <;> exact rfl)) | skip
        intro x15 ex15
        have rx15 := i_rng x15
        first | (have tx15 : x15.toInt = v2.toInt + (1) := by (rw [ex15]; exact (i_add rfl (show (1 : Int32).toInt = 1 from rfl) (by omega) (by omega)))) | skip
        exact ih x15 I12 L w_I12 q_I12   (by omega)  (by omega)
      · skip
        first | (have t16 : ¬ ((I b7 v2.toNatClampNeg).toInt < (1000)) := (not_congr (i_lt rfl (show (1000 : Int32).toInt = 1000 from rfl))).mp c10) | (have t16 : ¬ ((I b7 v2.toNatClampNeg).toInt < (1000 : Int32).toInt) := (not_congr (i_lt rfl rfl)).mp c10) | skip
        intro b17 eb17
        obtain rfl : b7 = b17 := Option.some.inj (eb7.symm.trans eb17)
        have o18 : vp_in v2 40 := vi_of rfl (by omega) (by omega)
        refine ⟨o18, ?_⟩
        refine ⟨fun c19 => ?_, fun c19 => ?_⟩
        · skip
          first | (have t20 : (2000) ≤ (I b7 v2.toNatClampNeg).toInt := (i_le (show (2000 : Int32).toInt = 2000 from rfl) rfl).mp c19) | (have t20 : (2000 : Int32).toInt ≤ (I b7 v2.toNatClampNeg).toInt := (i_le rfl rfl).mp c19) | skip
          unfold fs_X3_read_b174
          unfold fs_X3_read_b175
          intro I21 eI21
          have w_I21 : WD Z I21 := by rw [eI21]; exact WD_putF w_I 3 4 kv0 (by decide) (by decide) trivial
          have f_I21 : FR [(3, 4)] Z I Z I21 := by rw [eI21]; exact FR_putF kv0 (by decide) List.mem_cons_self
          have q_I21 : FR Ws_X3_read Z I0 Z I21 := q_I.trans w0.1 w0.2.1 (f_I21.mono (by decide))
          have u22 : (I21 v0 3).toInt = (I v0 3).toInt := by rw [f_I21.2.2.1 v0 3 3 kv0 (by decide) (by decide)]
          first | (have u23 : (I21 v0 4).toInt = ((I v0 4) ||| (0 : Int32)).toInt := by (rw [eI21, show jpI I v0 4 ((I v0 4) ||| (0 : Int32)) v0 4 = ((I v0 4) ||| (0 : Int32)) from jpI_at] <;> exact rfl)) | skip
          intro x24 ex24
          have rx24 := i_rng x24
          first | (have tx24 : x24.toInt = v2.toInt + (1) := by (rw [ex24]; exact (i_add rfl (show (1 : Int32).toInt = 1 from rfl) (by omega) (by omega)))) | skip
          exact ih x24 I21 L w_I21 q_I21   (by omega)  (by omega)
        · skip
          first | (have t25 : ¬ ((2000) ≤ (I b7 v2.toNatClampNeg).toInt) := (not_congr (i_le (show (2000 : Int32).toInt = 2000 from rfl) rfl)).mp c19) | (have t25 : ¬ ((2000 : Int32).toInt ≤ (I b7 v2.toNatClampNeg).toInt) := (not_congr (i_le rfl rfl)).mp c19) | skip
          intro b26 eb26
          obtain rfl : b7 = b26 := Option.some.inj (eb7.symm.trans eb26)
          have o27 : vp_in v2 40 := vi_of rfl (by omega) (by omega)
          refine ⟨o27, ?_⟩
          unfold fs_X3_read_b175
          intro I28 eI28
          have w_I28 : WD Z I28 := by rw [eI28]; exact WD_putF w_I 3 4 kv0 (by decide) (by decide) trivial
          have f_I28 : FR [(3, 4)] Z I Z I28 := by rw [eI28]; exact FR_putF kv0 (by decide) List.mem_cons_self
          have q_I28 : FR Ws_X3_read Z I0 Z I28 := q_I.trans w0.1 w0.2.1 (f_I28.mono (by decide))
          have u29 : (I28 v0 3).toInt = (I v0 3).toInt := by rw [f_I28.2.2.1 v0 3 3 kv0 (by decide) (by decide)]
          first | (have u30 : (I28 v0 4).toInt = ((I v0 4) ||| ((1 : Int32) <<< (((I b7 v2.toNatClampNeg) - (1000 : Int32)) &&& 31))).toInt := by (rw [eI28, show jpI I v0 4 ((I v0 4) ||| ((1 : Int32) <<< (((I b7 v2.toNatClampNeg) - (1000 : Int32)) &&& 31))) v0 4 = ((I v0 4) ||| ((1 : Int32) <<< (((I b7 v2.toNatClampNeg) - (1000 : Int32)) &&& 31))) from jpI_at] <;> exact rfl)) | skip
          intro x31 ex31
          have rx31 := i_rng x31
          first | (have tx31 : x31.toInt = v2.toInt + (1) := by (rw [ex31]; exact (i_add rfl (show (1 : Int32).toInt = 1 from rfl) (by omega) (by omega)))) | skip
          exact ih x31 I28 L w_I28 q_I28   (by omega)  (by omega)
set_option maxHeartbeats 4000000 in
set_option maxRecDepth 100000 in
theorem s_X3_read {Z : jZ} {I : jI} {L : jL} (w_I : WD Z I) (v0 : Nat) (v1 : Nat) (kv0 : jk Z v0 3) (kv1 : jk Z v1 10) {Q : Int32 → jI → jL → Prop} (hQ : ∀ (r : Int32) (I' : jI) (L' : jL), WD Z I' → FR Ws_X3_read Z I Z I' → Q r I' L') : fs_X3_read v0 v1 Z I L Q := by
  unfold fs_X3_read
  have q_I : FR Ws_X3_read Z I Z I := FR.rf
  intro I32 eI32
  have t33 : (0 : Int32).toInt = 0 := rfl
  have w_I32 : WD Z I32 := by rw [eI32]; exact WD_putF w_I 3 5 kv0 (by decide) (by decide) (by constructor <;> omega)
  have f_I32 : FR [(3, 5)] Z I Z I32 := by rw [eI32]; exact FR_putF kv0 (by decide) List.mem_cons_self
  have q_I32 : FR Ws_X3_read Z I Z I32 := q_I.trans w_I.1 w_I.2.1 (f_I32.mono (by decide))
  first | (have u34 : (I32 v0 5).toInt = (0) := by (rw [eI32, show jpI I v0 5 (0 : Int32) v0 5 = (0 : Int32) from jpI_at] <;> exact (show (0 : Int32).toInt = 0 from rfl))) | skip
  intro I35 eI35
  have t36 : (0 : Int32).toInt = 0 := rfl
  have w_I35 : WD Z I35 := by rw [eI35]; exact WD_putF w_I32 3 6 kv0 (by decide) (by decide) trivial
  have f_I35 : FR [(3, 6)] Z I32 Z I35 := by rw [eI35]; exact FR_putF kv0 (by decide) List.mem_cons_self
  have q_I35 : FR Ws_X3_read Z I Z I35 := q_I32.trans w_I.1 w_I.2.1 (f_I35.mono (by decide))
  have u37 : (I35 v0 5).toInt = (I32 v0 5).toInt := by rw [f_I35.2.2.1 v0 3 5 kv0 (by decide) (by decide)]
  first | (have u38 : (I35 v0 6).toInt = (0) := by (rw [eI35, show jpI I32 v0 6 (0 : Int32) v0 6 = (0 : Int32) from jpI_at] <;> exact (show (0 : Int32).toInt = 0 from rfl))) | skip
  intro I39 eI39
  have t40 : (-1 : Int32).toInt = -1 := rfl
  have w_I39 : WD Z I39 := by rw [eI39]; exact WD_putF w_I35 3 8 kv0 (by decide) (by decide) trivial
  have f_I39 : FR [(3, 8)] Z I35 Z I39 := by rw [eI39]; exact FR_putF kv0 (by decide) List.mem_cons_self
  have q_I39 : FR Ws_X3_read Z I Z I39 := q_I35.trans w_I.1 w_I.2.1 (f_I39.mono (by decide))
  have u41 : (I39 v0 5).toInt = (I35 v0 5).toInt := by rw [f_I39.2.2.1 v0 3 5 kv0 (by decide) (by decide)]
  have u42 : (I39 v0 6).toInt = (I35 v0 6).toInt := by rw [f_I39.2.2.1 v0 3 6 kv0 (by decide) (by decide)]
  first | (have u43 : (I39 v0 8).toInt = (-1) := by (rw [eI39, show jpI I35 v0 8 (-1 : Int32) v0 8 = (-1 : Int32) from jpI_at] <;> exact (show (-1 : Int32).toInt = -1 from rfl))) | skip
  have t45 : 0 ≤ (I39 v1 1).toInt ∧ (I39 v1 1).toInt ≤ 80 := w_I39.fld 10 1 kv1 (by decide)
  intro I46 eI46
  try (have t47 : (if (40 : Int32) < (I39 v1 1) then (40 : Int32) else (I39 v1 1)).toInt = (min (I39 v1 1).toInt (40)) := (i_min rfl (show (40 : Int32).toInt = 40 from rfl)))
  have w_I46 : WD Z I46 := by rw [eI46]; exact WD_putF w_I39 3 7 kv0 (by decide) (by decide) trivial
  have f_I46 : FR [(3, 7)] Z I39 Z I46 := by rw [eI46]; exact FR_putF kv0 (by decide) List.mem_cons_self
  have q_I46 : FR Ws_X3_read Z I Z I46 := q_I39.trans w_I.1 w_I.2.1 (f_I46.mono (by decide))
  have u48 : (I46 v0 5).toInt = (I39 v0 5).toInt := by rw [f_I46.2.2.1 v0 3 5 kv0 (by decide) (by decide)]
  have u49 : (I46 v0 6).toInt = (I39 v0 6).toInt := by rw [f_I46.2.2.1 v0 3 6 kv0 (by decide) (by decide)]
  have u50 : (I46 v0 8).toInt = (I39 v0 8).toInt := by rw [f_I46.2.2.1 v0 3 8 kv0 (by decide) (by decide)]
  have u51 : (I46 v1 1).toInt = (I39 v1 1).toInt := by rw [f_I46.2.2.1 v1 10 1 kv1 (by decide) (by decide)]
  first | (have u52 : (I46 v0 7).toInt = (min (I39 v1 1).toInt (40)) := by (rw [eI46, show jpI I39 v0 7 (if (40 : Int32) < (I39 v1 1) then (40 : Int32) else (I39 v1 1)) v0 7 = (if (40 : Int32) < (I39 v1 1) then (40 : Int32) else (I39 v1 1)) from jpI_at] <;> exact (i_min rfl (show (40 : Int32).toInt = 40 from rfl)))) | skip
  have t54 : 0 ≤ (I46 v1 1).toInt ∧ (I46 v1 1).toInt ≤ 80 := w_I46.fld 10 1 kv1 (by decide)
  refine ⟨fun c55 => ?_, fun c55 => ?_⟩
  · skip
    first | (have t56 : (I46 v1 1).toInt ≤ (0) := (i_le rfl (show (0 : Int32).toInt = 0 from rfl)).mp c55) | (have t56 : (I46 v1 1).toInt ≤ (0 : Int32).toInt := (i_le rfl rfl).mp c55) | skip
    unfold fs_X3_read_b77
    refine ⟨fun c57 => ?_, fun c57 => ?_⟩
    · skip
      first | (have t58 : (I46 v0 8).toInt = (-1) := (i_eq rfl (show (-1 : Int32).toInt = -1 from rfl)).mp c57) | (have t58 : (I46 v0 8).toInt = (-1 : Int32).toInt := (i_eq rfl rfl).mp c57) | skip
      intro b59 eb59
      obtain ⟨x60, ex60, kb59, lb59⟩ := sh_f w_I46.1 kv0 (j := 1) (k := 14) (m := 40) rfl
      cases eb59.symm.trans ex60
      intro b61 eb61
      obtain ⟨x62, ex62, kb61, lb61⟩ := sh_f w_I46.1 kv0 (j := 0) (k := 14) (m := 40) rfl
      cases eb61.symm.trans ex62
      have t63 : (0 : Int32).toInt = 0 := rfl
      have t64 : (0 : Int32).toInt = 0 := rfl
      have t65 : (40 : Int32).toInt = 40 := rfl
      have t66 := i_nat (x := (0 : Int32)) (show (0 : Int32).toInt = 0 from rfl) (by omega)
      have t67 := i_nat (x := (0 : Int32)) (show (0 : Int32).toInt = 0 from rfl) (by omega)
      have t68 := i_nat (x := (40 : Int32)) (show (40 : Int32).toInt = 40 from rfl) (by omega)
      refine ⟨⟨(not_congr (i_lt (show (0 : Int32).toInt = 0 from rfl) (show (0 : Int32).toInt = 0 from rfl))).mpr (by omega), (not_congr (i_lt (show (0 : Int32).toInt = 0 from rfl) (show (0 : Int32).toInt = 0 from rfl))).mpr (by omega), (not_congr (i_lt (show (40 : Int32).toInt = 40 from rfl) (show (0 : Int32).toInt = 0 from rfl))).mpr (by omega), by omega, by omega⟩, ?_⟩
      intro I69 eI69
      have w_I69 : WD Z I69 := by rw [eI69]; exact WD_cpy w_I46 3 0 kv0 eb61 kb61 rfl rfl (by decide) (fun _ _ _ => trivial)
      have f_I69 : FR [(3, 0)] Z I46 Z I69 := by rw [eI69]; exact FR_upA w_I46.2.1 kv0 eb61 kb61 rfl rfl List.mem_cons_self
      have q_I69 : FR Ws_X3_read Z I Z I69 := q_I46.trans w_I.1 w_I.2.1 (f_I69.mono (by decide))
      have u70 : (I69 v0 5).toInt = (I46 v0 5).toInt := by rw [f_I69.2.2.1 v0 3 5 kv0 (by decide) (by decide)]
      have u71 : (I69 v0 6).toInt = (I46 v0 6).toInt := by rw [f_I69.2.2.1 v0 3 6 kv0 (by decide) (by decide)]
      have u72 : (I69 v0 8).toInt = (I46 v0 8).toInt := by rw [f_I69.2.2.1 v0 3 8 kv0 (by decide) (by decide)]
      have u73 : (I69 v1 1).toInt = (I46 v1 1).toInt := by rw [f_I69.2.2.1 v1 10 1 kv1 (by decide) (by decide)]
      have u74 : (I69 v0 7).toInt = (I46 v0 7).toInt := by rw [f_I69.2.2.1 v0 3 7 kv0 (by decide) (by decide)]
      have t76 : 0 ≤ (I69 v0 5).toInt ∧ (I69 v0 5).toInt ≤ 40 := w_I69.fld 3 5 kv0 (by decide)
      intro I77 eI77
      have w_I77 : WD Z I77 := by rw [eI77]; exact WD_putF w_I69 3 3 kv0 (by decide) (by decide) (by constructor <;> omega)
      have f_I77 : FR [(3, 3)] Z I69 Z I77 := by rw [eI77]; exact FR_putF kv0 (by decide) List.mem_cons_self
      have q_I77 : FR Ws_X3_read Z I Z I77 := q_I69.trans w_I.1 w_I.2.1 (f_I77.mono (by decide))
      have u78 : (I77 v0 5).toInt = (I69 v0 5).toInt := by rw [f_I77.2.2.1 v0 3 5 kv0 (by decide) (by decide)]
      have u79 : (I77 v0 6).toInt = (I69 v0 6).toInt := by rw [f_I77.2.2.1 v0 3 6 kv0 (by decide) (by decide)]
      have u80 : (I77 v0 8).toInt = (I69 v0 8).toInt := by rw [f_I77.2.2.1 v0 3 8 kv0 (by decide) (by decide)]
      have u81 : (I77 v1 1).toInt = (I69 v1 1).toInt := by rw [f_I77.2.2.1 v1 10 1 kv1 (by decide) (by decide)]
      have u82 : (I77 v0 7).toInt = (I69 v0 7).toInt := by rw [f_I77.2.2.1 v0 3 7 kv0 (by decide) (by decide)]
      first | (have u83 : (I77 v0 3).toInt = (I69 v0 5).toInt := by (rw [eI77, show jpI I69 v0 3 (I69 v0 5) v0 3 = (I69 v0 5) from jpI_at] <;> exact rfl)) | skip
      intro I84 eI84
      have t85 : (0 : Int32).toInt = 0 := rfl
      have w_I84 : WD Z I84 := by rw [eI84]; exact WD_putF w_I77 3 4 kv0 (by decide) (by decide) trivial
      have f_I84 : FR [(3, 4)] Z I77 Z I84 := by rw [eI84]; exact FR_putF kv0 (by decide) List.mem_cons_self
      have q_I84 : FR Ws_X3_read Z I Z I84 := q_I77.trans w_I.1 w_I.2.1 (f_I84.mono (by decide))
      have u86 : (I84 v0 5).toInt = (I77 v0 5).toInt := by rw [f_I84.2.2.1 v0 3 5 kv0 (by decide) (by decide)]
      have u87 : (I84 v0 6).toInt = (I77 v0 6).toInt := by rw [f_I84.2.2.1 v0 3 6 kv0 (by decide) (by decide)]
      have u88 : (I84 v0 8).toInt = (I77 v0 8).toInt := by rw [f_I84.2.2.1 v0 3 8 kv0 (by decide) (by decide)]
      have u89 : (I84 v1 1).toInt = (I77 v1 1).toInt := by rw [f_I84.2.2.1 v1 10 1 kv1 (by decide) (by decide)]
      have u90 : (I84 v0 7).toInt = (I77 v0 7).toInt := by rw [f_I84.2.2.1 v0 3 7 kv0 (by decide) (by decide)]
      have u91 : (I84 v0 3).toInt = (I77 v0 3).toInt := by rw [f_I84.2.2.1 v0 3 3 kv0 (by decide) (by decide)]
      first | (have u92 : (I84 v0 4).toInt = (0) := by (rw [eI84, show jpI I77 v0 4 (0 : Int32) v0 4 = (0 : Int32) from jpI_at] <;> exact (show (0 : Int32).toInt = 0 from rfl))) | skip
      have t93 : (0 : Int32).toInt = 0 := rfl
      exact ⟨(40 - (0 : Int32).toInt).toNat + 1, l_X3_read_L122 w_I v0 v1 kv0 kv1   hQ   _ (0 : Int32) I84 L w_I84 q_I84   (by omega)  (by omega)⟩
    · skip
      first | (have t94 : ¬ ((I46 v0 8).toInt = (-1)) := (not_congr (i_eq rfl (show (-1 : Int32).toInt = -1 from rfl))).mp c57) | (have t94 : ¬ ((I46 v0 8).toInt = (-1 : Int32).toInt) := (not_congr (i_eq rfl rfl)).mp c57) | skip
      try (have t95 : ((-1 : Int32) - (I46 v0 8)).toInt = ((-1) - (I46 v0 8).toInt) := (i_sub (show (-1 : Int32).toInt = -1 from rfl) rfl (by omega) (by omega)))
      exact hQ ((-1 : Int32) - (I46 v0 8)) I46 L w_I46 q_I46 
  · skip
    first | (have t96 : ¬ ((I46 v1 1).toInt ≤ (0)) := (not_congr (i_le rfl (show (0 : Int32).toInt = 0 from rfl))).mp c55) | (have t96 : ¬ ((I46 v1 1).toInt ≤ (0 : Int32).toInt) := (not_congr (i_le rfl rfl)).mp c55) | skip
    have t97 : (0 : Int32).toInt = 0 := rfl
    refine (hs3 30) 0 (by decide) Z I46 L w_I46 v0 v1 (0 : Int32) kv0 kv1 (by omega) (by omega) _ (fun I98 L99 w_I98 f_I98 => ?_)
    have q_I98 : FR Ws_X3_read Z I Z I98 := q_I46.trans w_I.1 w_I.2.1 (f_I98.mono (by decide))
    have u100 : (I98 v1 1).toInt = (I46 v1 1).toInt := by rw [f_I98.2.2.1 v1 10 1 kv1 (by decide) (by decide)]
    have u101 : (I98 v0 7).toInt = (I46 v0 7).toInt := by rw [f_I98.2.2.1 v0 3 7 kv0 (by decide) (by decide)]
    refine ⟨fun c102 => ?_, fun c102 => ?_⟩
    · skip
      first | (have t103 : ¬ ((I98 v0 8).toInt = (-1)) := (not_congr (i_eq rfl (show (-1 : Int32).toInt = -1 from rfl))).mp c102) | (have t103 : ¬ ((I98 v0 8).toInt = (-1 : Int32).toInt) := (not_congr (i_eq rfl rfl)).mp c102) | skip
      unfold fs_X3_read_b77
      refine ⟨fun c104 => ?_, fun c104 => ?_⟩
      · skip
        first | (have t105 : (I98 v0 8).toInt = (-1) := (i_eq rfl (show (-1 : Int32).toInt = -1 from rfl)).mp c104) | (have t105 : (I98 v0 8).toInt = (-1 : Int32).toInt := (i_eq rfl rfl).mp c104) | skip
        intro b106 eb106
        obtain ⟨x107, ex107, kb106, lb106⟩ := sh_f w_I98.1 kv0 (j := 1) (k := 14) (m := 40) rfl
        cases eb106.symm.trans ex107
        intro b108 eb108
        obtain ⟨x109, ex109, kb108, lb108⟩ := sh_f w_I98.1 kv0 (j := 0) (k := 14) (m := 40) rfl
        cases eb108.symm.trans ex109
        have t110 : (0 : Int32).toInt = 0 := rfl
        have t111 : (0 : Int32).toInt = 0 := rfl
        have t112 : (40 : Int32).toInt = 40 := rfl
        have t113 := i_nat (x := (0 : Int32)) (show (0 : Int32).toInt = 0 from rfl) (by omega)
        have t114 := i_nat (x := (0 : Int32)) (show (0 : Int32).toInt = 0 from rfl) (by omega)
        have t115 := i_nat (x := (40 : Int32)) (show (40 : Int32).toInt = 40 from rfl) (by omega)
        refine ⟨⟨(not_congr (i_lt (show (0 : Int32).toInt = 0 from rfl) (show (0 : Int32).toInt = 0 from rfl))).mpr (by omega), (not_congr (i_lt (show (0 : Int32).toInt = 0 from rfl) (show (0 : Int32).toInt = 0 from rfl))).mpr (by omega), (not_congr (i_lt (show (40 : Int32).toInt = 40 from rfl) (show (0 : Int32).toInt = 0 from rfl))).mpr (by omega), by omega, by omega⟩, ?_⟩
        intro I116 eI116
        have w_I116 : WD Z I116 := by rw [eI116]; exact WD_cpy w_I98 3 0 kv0 eb108 kb108 rfl rfl (by decide) (fun _ _ _ => trivial)
        have f_I116 : FR [(3, 0)] Z I98 Z I116 := by rw [eI116]; exact FR_upA w_I98.2.1 kv0 eb108 kb108 rfl rfl List.mem_cons_self
        have q_I116 : FR Ws_X3_read Z I Z I116 := q_I98.trans w_I.1 w_I.2.1 (f_I116.mono (by decide))
        have u117 : (I116 v1 1).toInt = (I98 v1 1).toInt := by rw [f_I116.2.2.1 v1 10 1 kv1 (by decide) (by decide)]
        have u118 : (I116 v0 7).toInt = (I98 v0 7).toInt := by rw [f_I116.2.2.1 v0 3 7 kv0 (by decide) (by decide)]
        have u119 : (I116 v0 8).toInt = (I98 v0 8).toInt := by rw [f_I116.2.2.1 v0 3 8 kv0 (by decide) (by decide)]
        have t121 : 0 ≤ (I116 v0 5).toInt ∧ (I116 v0 5).toInt ≤ 40 := w_I116.fld 3 5 kv0 (by decide)
        intro I122 eI122
        have w_I122 : WD Z I122 := by rw [eI122]; exact WD_putF w_I116 3 3 kv0 (by decide) (by decide) (by constructor <;> omega)
        have f_I122 : FR [(3, 3)] Z I116 Z I122 := by rw [eI122]; exact FR_putF kv0 (by decide) List.mem_cons_self
        have q_I122 : FR Ws_X3_read Z I Z I122 := q_I116.trans w_I.1 w_I.2.1 (f_I122.mono (by decide))
        have u123 : (I122 v1 1).toInt = (I116 v1 1).toInt := by rw [f_I122.2.2.1 v1 10 1 kv1 (by decide) (by decide)]
        have u124 : (I122 v0 7).toInt = (I116 v0 7).toInt := by rw [f_I122.2.2.1 v0 3 7 kv0 (by decide) (by decide)]
        have u125 : (I122 v0 8).toInt = (I116 v0 8).toInt := by rw [f_I122.2.2.1 v0 3 8 kv0 (by decide) (by decide)]
        have u126 : (I122 v0 5).toInt = (I116 v0 5).toInt := by rw [f_I122.2.2.1 v0 3 5 kv0 (by decide) (by decide)]
        first | (have u127 : (I122 v0 3).toInt = (I116 v0 5).toInt := by (rw [eI122, show jpI I116 v0 3 (I116 v0 5) v0 3 = (I116 v0 5) from jpI_at] <;> exact rfl)) | skip
        intro I128 eI128
        have t129 : (0 : Int32).toInt = 0 := rfl
        have w_I128 : WD Z I128 := by rw [eI128]; exact WD_putF w_I122 3 4 kv0 (by decide) (by decide) trivial
        have f_I128 : FR [(3, 4)] Z I122 Z I128 := by rw [eI128]; exact FR_putF kv0 (by decide) List.mem_cons_self
        have q_I128 : FR Ws_X3_read Z I Z I128 := q_I122.trans w_I.1 w_I.2.1 (f_I128.mono (by decide))
        have u130 : (I128 v1 1).toInt = (I122 v1 1).toInt := by rw [f_I128.2.2.1 v1 10 1 kv1 (by decide) (by decide)]
        have u131 : (I128 v0 7).toInt = (I122 v0 7).toInt := by rw [f_I128.2.2.1 v0 3 7 kv0 (by decide) (by decide)]
        have u132 : (I128 v0 8).toInt = (I122 v0 8).toInt := by rw [f_I128.2.2.1 v0 3 8 kv0 (by decide) (by decide)]
        have u133 : (I128 v0 5).toInt = (I122 v0 5).toInt := by rw [f_I128.2.2.1 v0 3 5 kv0 (by decide) (by decide)]
        have u134 : (I128 v0 3).toInt = (I122 v0 3).toInt := by rw [f_I128.2.2.1 v0 3 3 kv0 (by decide) (by decide)]
        first | (have u135 : (I128 v0 4).toInt = (0) := by (rw [eI128, show jpI I122 v0 4 (0 : Int32) v0 4 = (0 : Int32) from jpI_at] <;> exact (show (0 : Int32).toInt = 0 from rfl))) | skip
        have t136 : (0 : Int32).toInt = 0 := rfl
        exact ⟨(40 - (0 : Int32).toInt).toNat + 1, l_X3_read_L122 w_I v0 v1 kv0 kv1   hQ   _ (0 : Int32) I128 L99 w_I128 q_I128   (by omega)  (by omega)⟩
      · skip
        first | (have t137 : ¬ ((I98 v0 8).toInt = (-1)) := (not_congr (i_eq rfl (show (-1 : Int32).toInt = -1 from rfl))).mp c104) | (have t137 : ¬ ((I98 v0 8).toInt = (-1 : Int32).toInt) := (not_congr (i_eq rfl rfl)).mp c104) | skip
        try (have t138 : ((-1 : Int32) - (I98 v0 8)).toInt = ((-1) - (I98 v0 8).toInt) := (i_sub (show (-1 : Int32).toInt = -1 from rfl) rfl (by omega) (by omega)))
        exact hQ ((-1 : Int32) - (I98 v0 8)) I98 L99 w_I98 q_I98 
    · skip
      first | (have t139 : (I98 v0 8).toInt = (-1) := (i_eq rfl (show (-1 : Int32).toInt = -1 from rfl)).mp c102) | (have t139 : (I98 v0 8).toInt = (-1 : Int32).toInt := (i_eq rfl rfl).mp c102) | skip
      refine ⟨fun c140 => ?_, fun c140 => ?_⟩
      · skip
        first | (have t141 : (I98 v0 6).toInt < (I98 v0 7).toInt := (i_lt rfl rfl).mp c140) | (have t141 : (I98 v0 6).toInt < (I98 v0 7).toInt := (i_lt rfl rfl).mp c140) | skip
        unfold fs_X3_read_b69
        intro I142 eI142
        have w_I142 : WD Z I142 := by rw [eI142]; exact WD_putF w_I98 3 8 kv0 (by decide) (by decide) trivial
        have f_I142 : FR [(3, 8)] Z I98 Z I142 := by rw [eI142]; exact FR_putF kv0 (by decide) List.mem_cons_self
        have q_I142 : FR Ws_X3_read Z I Z I142 := q_I98.trans w_I.1 w_I.2.1 (f_I142.mono (by decide))
        have u143 : (I142 v1 1).toInt = (I98 v1 1).toInt := by rw [f_I142.2.2.1 v1 10 1 kv1 (by decide) (by decide)]
        have u144 : (I142 v0 7).toInt = (I98 v0 7).toInt := by rw [f_I142.2.2.1 v0 3 7 kv0 (by decide) (by decide)]
        have u145 : (I142 v0 6).toInt = (I98 v0 6).toInt := by rw [f_I142.2.2.1 v0 3 6 kv0 (by decide) (by decide)]
        first | (have u146 : (I142 v0 8).toInt = (I98 v0 6).toInt := by (rw [eI142, show jpI I98 v0 8 (I98 v0 6) v0 8 = (I98 v0 6) from jpI_at] <;> exact rfl)) | skip
        unfold fs_X3_read_b77
        refine ⟨fun c147 => ?_, fun c147 => ?_⟩
        · skip
          first | (have t148 : (I142 v0 8).toInt = (-1) := (i_eq rfl (show (-1 : Int32).toInt = -1 from rfl)).mp c147) | (have t148 : (I142 v0 8).toInt = (-1 : Int32).toInt := (i_eq rfl rfl).mp c147) | skip
          intro b149 eb149
          obtain ⟨x150, ex150, kb149, lb149⟩ := sh_f w_I142.1 kv0 (j := 1) (k := 14) (m := 40) rfl
          cases eb149.symm.trans ex150
          intro b151 eb151
          obtain ⟨x152, ex152, kb151, lb151⟩ := sh_f w_I142.1 kv0 (j := 0) (k := 14) (m := 40) rfl
          cases eb151.symm.trans ex152
          have t153 : (0 : Int32).toInt = 0 := rfl
          have t154 : (0 : Int32).toInt = 0 := rfl
          have t155 : (40 : Int32).toInt = 40 := rfl
          have t156 := i_nat (x := (0 : Int32)) (show (0 : Int32).toInt = 0 from rfl) (by omega)
          have t157 := i_nat (x := (0 : Int32)) (show (0 : Int32).toInt = 0 from rfl) (by omega)
          have t158 := i_nat (x := (40 : Int32)) (show (40 : Int32).toInt = 40 from rfl) (by omega)
          refine ⟨⟨(not_congr (i_lt (show (0 : Int32).toInt = 0 from rfl) (show (0 : Int32).toInt = 0 from rfl))).mpr (by omega), (not_congr (i_lt (show (0 : Int32).toInt = 0 from rfl) (show (0 : Int32).toInt = 0 from rfl))).mpr (by omega), (not_congr (i_lt (show (40 : Int32).toInt = 40 from rfl) (show (0 : Int32).toInt = 0 from rfl))).mpr (by omega), by omega, by omega⟩, ?_⟩
          intro I159 eI159
          have w_I159 : WD Z I159 := by rw [eI159]; exact WD_cpy w_I142 3 0 kv0 eb151 kb151 rfl rfl (by decide) (fun _ _ _ => trivial)
          have f_I159 : FR [(3, 0)] Z I142 Z I159 := by rw [eI159]; exact FR_upA w_I142.2.1 kv0 eb151 kb151 rfl rfl List.mem_cons_self
          have q_I159 : FR Ws_X3_read Z I Z I159 := q_I142.trans w_I.1 w_I.2.1 (f_I159.mono (by decide))
          have u160 : (I159 v1 1).toInt = (I142 v1 1).toInt := by rw [f_I159.2.2.1 v1 10 1 kv1 (by decide) (by decide)]
          have u161 : (I159 v0 7).toInt = (I142 v0 7).toInt := by rw [f_I159.2.2.1 v0 3 7 kv0 (by decide) (by decide)]
          have u162 : (I159 v0 6).toInt = (I142 v0 6).toInt := by rw [f_I159.2.2.1 v0 3 6 kv0 (by decide) (by decide)]
          have u163 : (I159 v0 8).toInt = (I142 v0 8).toInt := by rw [f_I159.2.2.1 v0 3 8 kv0 (by decide) (by decide)]
          have t165 : 0 ≤ (I159 v0 5).toInt ∧ (I159 v0 5).toInt ≤ 40 := w_I159.fld 3 5 kv0 (by decide)
          intro I166 eI166
          have w_I166 : WD Z I166 := by rw [eI166]; exact WD_putF w_I159 3 3 kv0 (by decide) (by decide) (by constructor <;> omega)
          have f_I166 : FR [(3, 3)] Z I159 Z I166 := by rw [eI166]; exact FR_putF kv0 (by decide) List.mem_cons_self
          have q_I166 : FR Ws_X3_read Z I Z I166 := q_I159.trans w_I.1 w_I.2.1 (f_I166.mono (by decide))
          have u167 : (I166 v1 1).toInt = (I159 v1 1).toInt := by rw [f_I166.2.2.1 v1 10 1 kv1 (by decide) (by decide)]
          have u168 : (I166 v0 7).toInt = (I159 v0 7).toInt := by rw [f_I166.2.2.1 v0 3 7 kv0 (by decide) (by decide)]
          have u169 : (I166 v0 6).toInt = (I159 v0 6).toInt := by rw [f_I166.2.2.1 v0 3 6 kv0 (by decide) (by decide)]
          have u170 : (I166 v0 8).toInt = (I159 v0 8).toInt := by rw [f_I166.2.2.1 v0 3 8 kv0 (by decide) (by decide)]
          have u171 : (I166 v0 5).toInt = (I159 v0 5).toInt := by rw [f_I166.2.2.1 v0 3 5 kv0 (by decide) (by decide)]
          first | (have u172 : (I166 v0 3).toInt = (I159 v0 5).toInt := by (rw [eI166, show jpI I159 v0 3 (I159 v0 5) v0 3 = (I159 v0 5) from jpI_at] <;> exact rfl)) | skip
          intro I173 eI173
          have t174 : (0 : Int32).toInt = 0 := rfl
          have w_I173 : WD Z I173 := by rw [eI173]; exact WD_putF w_I166 3 4 kv0 (by decide) (by decide) trivial
          have f_I173 : FR [(3, 4)] Z I166 Z I173 := by rw [eI173]; exact FR_putF kv0 (by decide) List.mem_cons_self
          have q_I173 : FR Ws_X3_read Z I Z I173 := q_I166.trans w_I.1 w_I.2.1 (f_I173.mono (by decide))
          have u175 : (I173 v1 1).toInt = (I166 v1 1).toInt := by rw [f_I173.2.2.1 v1 10 1 kv1 (by decide) (by decide)]
          have u176 : (I173 v0 7).toInt = (I166 v0 7).toInt := by rw [f_I173.2.2.1 v0 3 7 kv0 (by decide) (by decide)]
          have u177 : (I173 v0 6).toInt = (I166 v0 6).toInt := by rw [f_I173.2.2.1 v0 3 6 kv0 (by decide) (by decide)]
          have u178 : (I173 v0 8).toInt = (I166 v0 8).toInt := by rw [f_I173.2.2.1 v0 3 8 kv0 (by decide) (by decide)]
          have u179 : (I173 v0 5).toInt = (I166 v0 5).toInt := by rw [f_I173.2.2.1 v0 3 5 kv0 (by decide) (by decide)]
          have u180 : (I173 v0 3).toInt = (I166 v0 3).toInt := by rw [f_I173.2.2.1 v0 3 3 kv0 (by decide) (by decide)]
          first | (have u181 : (I173 v0 4).toInt = (0) := by (rw [eI173, show jpI I166 v0 4 (0 : Int32) v0 4 = (0 : Int32) from jpI_at] <;> exact (show (0 : Int32).toInt = 0 from rfl))) | skip
          have t182 : (0 : Int32).toInt = 0 := rfl
          exact ⟨(40 - (0 : Int32).toInt).toNat + 1, l_X3_read_L122 w_I v0 v1 kv0 kv1   hQ   _ (0 : Int32) I173 L99 w_I173 q_I173   (by omega)  (by omega)⟩
        · skip
          first | (have t183 : ¬ ((I142 v0 8).toInt = (-1)) := (not_congr (i_eq rfl (show (-1 : Int32).toInt = -1 from rfl))).mp c147) | (have t183 : ¬ ((I142 v0 8).toInt = (-1 : Int32).toInt) := (not_congr (i_eq rfl rfl)).mp c147) | skip
          try (have t184 : ((-1 : Int32) - (I142 v0 8)).toInt = ((-1) - (I142 v0 8).toInt) := (i_sub (show (-1 : Int32).toInt = -1 from rfl) rfl (by omega) (by omega)))
          exact hQ ((-1 : Int32) - (I142 v0 8)) I142 L99 w_I142 q_I142 
      · skip
        first | (have t185 : ¬ ((I98 v0 6).toInt < (I98 v0 7).toInt) := (not_congr (i_lt rfl rfl)).mp c140) | (have t185 : ¬ ((I98 v0 6).toInt < (I98 v0 7).toInt) := (not_congr (i_lt rfl rfl)).mp c140) | skip
        have t187 : 0 ≤ (I98 v1 1).toInt ∧ (I98 v1 1).toInt ≤ 80 := w_I98.fld 10 1 kv1 (by decide)
        refine ⟨fun c188 => ?_, fun c188 => ?_⟩
        · skip
          first | (have t189 : (I98 v1 1).toInt ≤ (40) := (i_le rfl (show (40 : Int32).toInt = 40 from rfl)).mp c188) | (have t189 : (I98 v1 1).toInt ≤ (40 : Int32).toInt := (i_le rfl rfl).mp c188) | skip
          unfold fs_X3_read_b77
          refine ⟨fun c190 => ?_, fun c190 => ?_⟩
          · skip
            first | (have t191 : (I98 v0 8).toInt = (-1) := (i_eq rfl (show (-1 : Int32).toInt = -1 from rfl)).mp c190) | (have t191 : (I98 v0 8).toInt = (-1 : Int32).toInt := (i_eq rfl rfl).mp c190) | skip
            intro b192 eb192
            obtain ⟨x193, ex193, kb192, lb192⟩ := sh_f w_I98.1 kv0 (j := 1) (k := 14) (m := 40) rfl
            cases eb192.symm.trans ex193
            intro b194 eb194
            obtain ⟨x195, ex195, kb194, lb194⟩ := sh_f w_I98.1 kv0 (j := 0) (k := 14) (m := 40) rfl
            cases eb194.symm.trans ex195
            have t196 : (0 : Int32).toInt = 0 := rfl
            have t197 : (0 : Int32).toInt = 0 := rfl
            have t198 : (40 : Int32).toInt = 40 := rfl
            have t199 := i_nat (x := (0 : Int32)) (show (0 : Int32).toInt = 0 from rfl) (by omega)
            have t200 := i_nat (x := (0 : Int32)) (show (0 : Int32).toInt = 0 from rfl) (by omega)
            have t201 := i_nat (x := (40 : Int32)) (show (40 : Int32).toInt = 40 from rfl) (by omega)
            refine ⟨⟨(not_congr (i_lt (show (0 : Int32).toInt = 0 from rfl) (show (0 : Int32).toInt = 0 from rfl))).mpr (by omega), (not_congr (i_lt (show (0 : Int32).toInt = 0 from rfl) (show (0 : Int32).toInt = 0 from rfl))).mpr (by omega), (not_congr (i_lt (show (40 : Int32).toInt = 40 from rfl) (show (0 : Int32).toInt = 0 from rfl))).mpr (by omega), by omega, by omega⟩, ?_⟩
            intro I202 eI202
            have w_I202 : WD Z I202 := by rw [eI202]; exact WD_cpy w_I98 3 0 kv0 eb194 kb194 rfl rfl (by decide) (fun _ _ _ => trivial)
            have f_I202 : FR [(3, 0)] Z I98 Z I202 := by rw [eI202]; exact FR_upA w_I98.2.1 kv0 eb194 kb194 rfl rfl List.mem_cons_self
            have q_I202 : FR Ws_X3_read Z I Z I202 := q_I98.trans w_I.1 w_I.2.1 (f_I202.mono (by decide))
            have u203 : (I202 v1 1).toInt = (I98 v1 1).toInt := by rw [f_I202.2.2.1 v1 10 1 kv1 (by decide) (by decide)]
            have u204 : (I202 v0 7).toInt = (I98 v0 7).toInt := by rw [f_I202.2.2.1 v0 3 7 kv0 (by decide) (by decide)]
            have u205 : (I202 v0 8).toInt = (I98 v0 8).toInt := by rw [f_I202.2.2.1 v0 3 8 kv0 (by decide) (by decide)]
            have u206 : (I202 v0 6).toInt = (I98 v0 6).toInt := by rw [f_I202.2.2.1 v0 3 6 kv0 (by decide) (by decide)]
            have t208 : 0 ≤ (I202 v0 5).toInt ∧ (I202 v0 5).toInt ≤ 40 := w_I202.fld 3 5 kv0 (by decide)
            intro I209 eI209
            have w_I209 : WD Z I209 := by rw [eI209]; exact WD_putF w_I202 3 3 kv0 (by decide) (by decide) (by constructor <;> omega)
            have f_I209 : FR [(3, 3)] Z I202 Z I209 := by rw [eI209]; exact FR_putF kv0 (by decide) List.mem_cons_self
            have q_I209 : FR Ws_X3_read Z I Z I209 := q_I202.trans w_I.1 w_I.2.1 (f_I209.mono (by decide))
            have u210 : (I209 v1 1).toInt = (I202 v1 1).toInt := by rw [f_I209.2.2.1 v1 10 1 kv1 (by decide) (by decide)]
            have u211 : (I209 v0 7).toInt = (I202 v0 7).toInt := by rw [f_I209.2.2.1 v0 3 7 kv0 (by decide) (by decide)]
            have u212 : (I209 v0 8).toInt = (I202 v0 8).toInt := by rw [f_I209.2.2.1 v0 3 8 kv0 (by decide) (by decide)]
            have u213 : (I209 v0 6).toInt = (I202 v0 6).toInt := by rw [f_I209.2.2.1 v0 3 6 kv0 (by decide) (by decide)]
            have u214 : (I209 v0 5).toInt = (I202 v0 5).toInt := by rw [f_I209.2.2.1 v0 3 5 kv0 (by decide) (by decide)]
            first | (have u215 : (I209 v0 3).toInt = (I202 v0 5).toInt := by (rw [eI209, show jpI I202 v0 3 (I202 v0 5) v0 3 = (I202 v0 5) from jpI_at] <;> exact rfl)) | skip
            intro I216 eI216
            have t217 : (0 : Int32).toInt = 0 := rfl
            have w_I216 : WD Z I216 := by rw [eI216]; exact WD_putF w_I209 3 4 kv0 (by decide) (by decide) trivial
            have f_I216 : FR [(3, 4)] Z I209 Z I216 := by rw [eI216]; exact FR_putF kv0 (by decide) List.mem_cons_self
            have q_I216 : FR Ws_X3_read Z I Z I216 := q_I209.trans w_I.1 w_I.2.1 (f_I216.mono (by decide))
            have u218 : (I216 v1 1).toInt = (I209 v1 1).toInt := by rw [f_I216.2.2.1 v1 10 1 kv1 (by decide) (by decide)]
            have u219 : (I216 v0 7).toInt = (I209 v0 7).toInt := by rw [f_I216.2.2.1 v0 3 7 kv0 (by decide) (by decide)]
            have u220 : (I216 v0 8).toInt = (I209 v0 8).toInt := by rw [f_I216.2.2.1 v0 3 8 kv0 (by decide) (by decide)]
            have u221 : (I216 v0 6).toInt = (I209 v0 6).toInt := by rw [f_I216.2.2.1 v0 3 6 kv0 (by decide) (by decide)]
            have u222 : (I216 v0 5).toInt = (I209 v0 5).toInt := by rw [f_I216.2.2.1 v0 3 5 kv0 (by decide) (by decide)]
            have u223 : (I216 v0 3).toInt = (I209 v0 3).toInt := by rw [f_I216.2.2.1 v0 3 3 kv0 (by decide) (by decide)]
            first | (have u224 : (I216 v0 4).toInt = (0) := by (rw [eI216, show jpI I209 v0 4 (0 : Int32) v0 4 = (0 : Int32) from jpI_at] <;> exact (show (0 : Int32).toInt = 0 from rfl))) | skip
            have t225 : (0 : Int32).toInt = 0 := rfl
            exact ⟨(40 - (0 : Int32).toInt).toNat + 1, l_X3_read_L122 w_I v0 v1 kv0 kv1   hQ   _ (0 : Int32) I216 L99 w_I216 q_I216   (by omega)  (by omega)⟩
          · skip
            first | (have t226 : ¬ ((I98 v0 8).toInt = (-1)) := (not_congr (i_eq rfl (show (-1 : Int32).toInt = -1 from rfl))).mp c190) | (have t226 : ¬ ((I98 v0 8).toInt = (-1 : Int32).toInt) := (not_congr (i_eq rfl rfl)).mp c190) | skip
            try (have t227 : ((-1 : Int32) - (I98 v0 8)).toInt = ((-1) - (I98 v0 8).toInt) := (i_sub (show (-1 : Int32).toInt = -1 from rfl) rfl (by omega) (by omega)))
            exact hQ ((-1 : Int32) - (I98 v0 8)) I98 L99 w_I98 q_I98 
        · skip
          first | (have t228 : ¬ ((I98 v1 1).toInt ≤ (40)) := (not_congr (i_le rfl (show (40 : Int32).toInt = 40 from rfl))).mp c188) | (have t228 : ¬ ((I98 v1 1).toInt ≤ (40 : Int32).toInt) := (not_congr (i_le rfl rfl)).mp c188) | skip
          unfold fs_X3_read_b69
          intro I229 eI229
          have w_I229 : WD Z I229 := by rw [eI229]; exact WD_putF w_I98 3 8 kv0 (by decide) (by decide) trivial
          have f_I229 : FR [(3, 8)] Z I98 Z I229 := by rw [eI229]; exact FR_putF kv0 (by decide) List.mem_cons_self
          have q_I229 : FR Ws_X3_read Z I Z I229 := q_I98.trans w_I.1 w_I.2.1 (f_I229.mono (by decide))
          have u230 : (I229 v1 1).toInt = (I98 v1 1).toInt := by rw [f_I229.2.2.1 v1 10 1 kv1 (by decide) (by decide)]
          have u231 : (I229 v0 7).toInt = (I98 v0 7).toInt := by rw [f_I229.2.2.1 v0 3 7 kv0 (by decide) (by decide)]
          have u232 : (I229 v0 6).toInt = (I98 v0 6).toInt := by rw [f_I229.2.2.1 v0 3 6 kv0 (by decide) (by decide)]
          first | (have u233 : (I229 v0 8).toInt = (I98 v0 6).toInt := by (rw [eI229, show jpI I98 v0 8 (I98 v0 6) v0 8 = (I98 v0 6) from jpI_at] <;> exact rfl)) | skip
          unfold fs_X3_read_b77
          refine ⟨fun c234 => ?_, fun c234 => ?_⟩
          · skip
            first | (have t235 : (I229 v0 8).toInt = (-1) := (i_eq rfl (show (-1 : Int32).toInt = -1 from rfl)).mp c234) | (have t235 : (I229 v0 8).toInt = (-1 : Int32).toInt := (i_eq rfl rfl).mp c234) | skip
            intro b236 eb236
            obtain ⟨x237, ex237, kb236, lb236⟩ := sh_f w_I229.1 kv0 (j := 1) (k := 14) (m := 40) rfl
            cases eb236.symm.trans ex237
            intro b238 eb238
            obtain ⟨x239, ex239, kb238, lb238⟩ := sh_f w_I229.1 kv0 (j := 0) (k := 14) (m := 40) rfl
            cases eb238.symm.trans ex239
            have t240 : (0 : Int32).toInt = 0 := rfl
            have t241 : (0 : Int32).toInt = 0 := rfl
            have t242 : (40 : Int32).toInt = 40 := rfl
            have t243 := i_nat (x := (0 : Int32)) (show (0 : Int32).toInt = 0 from rfl) (by omega)
            have t244 := i_nat (x := (0 : Int32)) (show (0 : Int32).toInt = 0 from rfl) (by omega)
            have t245 := i_nat (x := (40 : Int32)) (show (40 : Int32).toInt = 40 from rfl) (by omega)
            refine ⟨⟨(not_congr (i_lt (show (0 : Int32).toInt = 0 from rfl) (show (0 : Int32).toInt = 0 from rfl))).mpr (by omega), (not_congr (i_lt (show (0 : Int32).toInt = 0 from rfl) (show (0 : Int32).toInt = 0 from rfl))).mpr (by omega), (not_congr (i_lt (show (40 : Int32).toInt = 40 from rfl) (show (0 : Int32).toInt = 0 from rfl))).mpr (by omega), by omega, by omega⟩, ?_⟩
            intro I246 eI246
            have w_I246 : WD Z I246 := by rw [eI246]; exact WD_cpy w_I229 3 0 kv0 eb238 kb238 rfl rfl (by decide) (fun _ _ _ => trivial)
            have f_I246 : FR [(3, 0)] Z I229 Z I246 := by rw [eI246]; exact FR_upA w_I229.2.1 kv0 eb238 kb238 rfl rfl List.mem_cons_self
            have q_I246 : FR Ws_X3_read Z I Z I246 := q_I229.trans w_I.1 w_I.2.1 (f_I246.mono (by decide))
            have u247 : (I246 v1 1).toInt = (I229 v1 1).toInt := by rw [f_I246.2.2.1 v1 10 1 kv1 (by decide) (by decide)]
            have u248 : (I246 v0 7).toInt = (I229 v0 7).toInt := by rw [f_I246.2.2.1 v0 3 7 kv0 (by decide) (by decide)]
            have u249 : (I246 v0 6).toInt = (I229 v0 6).toInt := by rw [f_I246.2.2.1 v0 3 6 kv0 (by decide) (by decide)]
            have u250 : (I246 v0 8).toInt = (I229 v0 8).toInt := by rw [f_I246.2.2.1 v0 3 8 kv0 (by decide) (by decide)]
            have t252 : 0 ≤ (I246 v0 5).toInt ∧ (I246 v0 5).toInt ≤ 40 := w_I246.fld 3 5 kv0 (by decide)
            intro I253 eI253
            have w_I253 : WD Z I253 := by rw [eI253]; exact WD_putF w_I246 3 3 kv0 (by decide) (by decide) (by constructor <;> omega)
            have f_I253 : FR [(3, 3)] Z I246 Z I253 := by rw [eI253]; exact FR_putF kv0 (by decide) List.mem_cons_self
            have q_I253 : FR Ws_X3_read Z I Z I253 := q_I246.trans w_I.1 w_I.2.1 (f_I253.mono (by decide))
            have u254 : (I253 v1 1).toInt = (I246 v1 1).toInt := by rw [f_I253.2.2.1 v1 10 1 kv1 (by decide) (by decide)]
            have u255 : (I253 v0 7).toInt = (I246 v0 7).toInt := by rw [f_I253.2.2.1 v0 3 7 kv0 (by decide) (by decide)]
            have u256 : (I253 v0 6).toInt = (I246 v0 6).toInt := by rw [f_I253.2.2.1 v0 3 6 kv0 (by decide) (by decide)]
            have u257 : (I253 v0 8).toInt = (I246 v0 8).toInt := by rw [f_I253.2.2.1 v0 3 8 kv0 (by decide) (by decide)]
            have u258 : (I253 v0 5).toInt = (I246 v0 5).toInt := by rw [f_I253.2.2.1 v0 3 5 kv0 (by decide) (by decide)]
            first | (have u259 : (I253 v0 3).toInt = (I246 v0 5).toInt := by (rw [eI253, show jpI I246 v0 3 (I246 v0 5) v0 3 = (I246 v0 5) from jpI_at] <;> exact rfl)) | skip
            intro I260 eI260
            have t261 : (0 : Int32).toInt = 0 := rfl
            have w_I260 : WD Z I260 := by rw [eI260]; exact WD_putF w_I253 3 4 kv0 (by decide) (by decide) trivial
            have f_I260 : FR [(3, 4)] Z I253 Z I260 := by rw [eI260]; exact FR_putF kv0 (by decide) List.mem_cons_self
            have q_I260 : FR Ws_X3_read Z I Z I260 := q_I253.trans w_I.1 w_I.2.1 (f_I260.mono (by decide))
            have u262 : (I260 v1 1).toInt = (I253 v1 1).toInt := by rw [f_I260.2.2.1 v1 10 1 kv1 (by decide) (by decide)]
            have u263 : (I260 v0 7).toInt = (I253 v0 7).toInt := by rw [f_I260.2.2.1 v0 3 7 kv0 (by decide) (by decide)]
            have u264 : (I260 v0 6).toInt = (I253 v0 6).toInt := by rw [f_I260.2.2.1 v0 3 6 kv0 (by decide) (by decide)]
            have u265 : (I260 v0 8).toInt = (I253 v0 8).toInt := by rw [f_I260.2.2.1 v0 3 8 kv0 (by decide) (by decide)]
            have u266 : (I260 v0 5).toInt = (I253 v0 5).toInt := by rw [f_I260.2.2.1 v0 3 5 kv0 (by decide) (by decide)]
            have u267 : (I260 v0 3).toInt = (I253 v0 3).toInt := by rw [f_I260.2.2.1 v0 3 3 kv0 (by decide) (by decide)]
            first | (have u268 : (I260 v0 4).toInt = (0) := by (rw [eI260, show jpI I253 v0 4 (0 : Int32) v0 4 = (0 : Int32) from jpI_at] <;> exact (show (0 : Int32).toInt = 0 from rfl))) | skip
            have t269 : (0 : Int32).toInt = 0 := rfl
            exact ⟨(40 - (0 : Int32).toInt).toNat + 1, l_X3_read_L122 w_I v0 v1 kv0 kv1   hQ   _ (0 : Int32) I260 L99 w_I260 q_I260   (by omega)  (by omega)⟩
          · skip
            first | (have t270 : ¬ ((I229 v0 8).toInt = (-1)) := (not_congr (i_eq rfl (show (-1 : Int32).toInt = -1 from rfl))).mp c234) | (have t270 : ¬ ((I229 v0 8).toInt = (-1 : Int32).toInt) := (not_congr (i_eq rfl rfl)).mp c234) | skip
            try (have t271 : ((-1 : Int32) - (I229 v0 8)).toInt = ((-1) - (I229 v0 8).toInt) := (i_sub (show (-1 : Int32).toInt = -1 from rfl) rfl (by omega) (by omega)))
            exact hQ ((-1 : Int32) - (I229 v0 8)) I229 L99 w_I229 q_I229 
def Ws_X11_law : List (Nat × Nat) := [(3, 0), (3, 1), (3, 3), (3, 4), (3, 5), (3, 6), (3, 7), (3, 8), (10, 1)]
set_option maxHeartbeats 4000000 in
set_option maxRecDepth 100000 in
theorem s_X11_law {Z : jZ} {I : jI} {L : jL} (w_I : WD Z I) (v0 : Nat) (v1 : Int32) (kv0 : jk Z v0 11) {Q : Int32 → jI → jL → Prop} (hQ : ∀ (r : Int32) (I' : jI) (L' : jL), WD Z I' → FR Ws_X11_law Z I Z I' → Q r I' L') : fs_X11_law v0 v1 Z I L Q := by
  unfold fs_X11_law
  have q_I : FR Ws_X11_law Z I Z I := FR.rf
  have rv1 := i_rng v1
  refine ⟨fun c1 => ?_, fun c1 => ?_⟩
  · skip
    first | (have t2 : ¬ (v1.toInt = (0)) := (not_congr (i_eq rfl (show (0 : Int32).toInt = 0 from rfl))).mp c1) | (have t2 : ¬ (v1.toInt = (0 : Int32).toInt) := (not_congr (i_eq rfl rfl)).mp c1) | skip
    refine ⟨fun c3 => ?_, fun c3 => ?_⟩
    · skip
      first | (have t4 : ¬ (v1.toInt = (1)) := (not_congr (i_eq rfl (show (1 : Int32).toInt = 1 from rfl))).mp c3) | (have t4 : ¬ (v1.toInt = (1 : Int32).toInt) := (not_congr (i_eq rfl rfl)).mp c3) | skip
      unfold fs_X11_law_b45
      intro b5 eb5
      obtain ⟨x6, ex6, kb5⟩ := sh_o w_I.1 kv0 (j := 0) (k := 10) rfl
      cases eb5.symm.trans ex6
      refine s_X10_clear w_I b5 kb5   (fun  I7 L8 w_I7 f_I7  => ?_)
      have q_I7 : FR Ws_X11_law Z I Z I7 := q_I.trans w_I.1 w_I.2.1 (f_I7.mono (by decide))
      have t9 : (-100 : Int32).toInt = -100 := rfl
      exact hQ (-100 : Int32) I7 L8 w_I7 q_I7 
    · skip
      first | (have t10 : v1.toInt = (1) := (i_eq rfl (show (1 : Int32).toInt = 1 from rfl)).mp c3) | (have t10 : v1.toInt = (1 : Int32).toInt := (i_eq rfl rfl).mp c3) | skip
      intro b11 eb11
      obtain ⟨x12, ex12, kb11⟩ := sh_o w_I.1 kv0 (j := 2) (k := 8) rfl
      cases eb11.symm.trans ex12
      intro b13 eb13
      obtain ⟨x14, ex14, kb13⟩ := sh_o w_I.1 kb11 (j := 7) (k := 3) rfl
      cases eb13.symm.trans ex14
      intro b15 eb15
      obtain ⟨x16, ex16, kb15⟩ := sh_o w_I.1 kv0 (j := 0) (k := 10) rfl
      cases eb15.symm.trans ex16
      refine s_X3_read w_I b13 b15 kb13 kb15   (fun r17 I18 L19 w_I18 f_I18  => ?_)
      have q_I18 : FR Ws_X11_law Z I Z I18 := q_I.trans w_I.1 w_I.2.1 (f_I18.mono (by decide))
      have rr17 := i_rng r17
      unfold fs_X11_law_b45
      intro b20 eb20
      obtain rfl : b15 = b20 := Option.some.inj (eb15.symm.trans eb20)
      refine s_X10_clear w_I18 b15 kb15   (fun  I21 L22 w_I21 f_I21  => ?_)
      have q_I21 : FR Ws_X11_law Z I Z I21 := q_I18.trans w_I.1 w_I.2.1 (f_I21.mono (by decide))
      exact hQ r17 I21 L22 w_I21 q_I21 
  · skip
    first | (have t23 : v1.toInt = (0) := (i_eq rfl (show (0 : Int32).toInt = 0 from rfl)).mp c1) | (have t23 : v1.toInt = (0 : Int32).toInt := (i_eq rfl rfl).mp c1) | skip
    intro b24 eb24
    obtain ⟨x25, ex25, kb24⟩ := sh_o w_I.1 kv0 (j := 2) (k := 8) rfl
    cases eb24.symm.trans ex25
    intro b26 eb26
    obtain ⟨x27, ex27, kb26⟩ := sh_o w_I.1 kb24 (j := 6) (k := 3) rfl
    cases eb26.symm.trans ex27
    intro b28 eb28
    obtain ⟨x29, ex29, kb28⟩ := sh_o w_I.1 kv0 (j := 0) (k := 10) rfl
    cases eb28.symm.trans ex29
    refine s_X3_read w_I b26 b28 kb26 kb28   (fun r30 I31 L32 w_I31 f_I31  => ?_)
    have q_I31 : FR Ws_X11_law Z I Z I31 := q_I.trans w_I.1 w_I.2.1 (f_I31.mono (by decide))
    have rr30 := i_rng r30
    unfold fs_X11_law_b45
    intro b33 eb33
    obtain rfl : b28 = b33 := Option.some.inj (eb28.symm.trans eb33)
    refine s_X10_clear w_I31 b28 kb28   (fun  I34 L35 w_I34 f_I34  => ?_)
    have q_I34 : FR Ws_X11_law Z I Z I34 := q_I31.trans w_I.1 w_I.2.1 (f_I34.mono (by decide))
    exact hQ r30 I34 L35 w_I34 q_I34 
