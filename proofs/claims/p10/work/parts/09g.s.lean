set_option maxHeartbeats 4000000 in
set_option maxRecDepth 100000 in
theorem s_X12_thing {d : Nat} {F : FTR12} (hF : HS12 d F) {Z : jZ} {I : jI} {L : jL} (w_I : WD Z I) (v0 : Nat) (v1 : Int32) (kv0 : jk Z v0 12) (uR : Nat) (huR : jr Z v0 23 = some uR) (kuR : jk Z uR 13) (p0 : 0 ≤ (I v0 26).toInt ∧ (I v0 26).toInt ≤ (I v0 24).toInt ∧ (I v0 26).toInt ≤ (I v0 25).toInt ∧ (I v0 24).toInt ≤ (jlen Z uR : Int) ∧ jlen Z uR ≤ 80) (p1 : ((I v0 31).toInt = -1 ∨ (0 ≤ (I v0 31).toInt ∧ (I v0 31).toInt ≤ 23 ∧ (I v0 32).toInt ≤ 23))) (p2 : 0 ≤ v1.toInt ∧ v1.toInt ≤ 4) (p3 : (I v0 25).toInt - (I v0 26).toInt + 4 * (4 - v1.toInt) + 4 - 3 ≤ (d : Int) + 1) {Q : Int32 → jI → jL → Prop} (hQ : ∀ (r : Int32) (I' : jI) (L' : jL), WD Z I' → FR Ws_R12 Z I Z I' → ((I v0 26).toInt ≤ (I' v0 26).toInt ∧ (I' v0 26).toInt ≤ (I v0 24).toInt ∧ (I' v0 26).toInt ≤ (I v0 25).toInt ∧ (¬ (I v0 27).toInt = -1 → ¬ (I' v0 27).toInt = -1)) → Q r I' L') : f_X12_thing F v0 v1 Z I L Q := by
  unfold f_X12_thing
  have q_I : FR Ws_R12 Z I Z I := FR.rf
  have rv1 := i_rng v1
  have t1 : (45 : Int32).toInt = 45 := rfl
  refine s_X12_passes w_I v0 (45 : Int32) kv0 uR huR kuR (by omega) (by omega) (fun r2 I4 L5 w_I4 f_I4 p3 => ?_)
  have q_I4 : FR Ws_R12 Z I Z I4 := q_I.trans w_I.1 w_I.2.1 (f_I4.mono (by decide))
  have u6 : (I4 v0 31).toInt = (I v0 31).toInt := by rw [f_I4.2.2.1 v0 12 31 kv0 (by decide) (by decide)]
  have u7 : (I4 v0 32).toInt = (I v0 32).toInt := by rw [f_I4.2.2.1 v0 12 32 kv0 (by decide) (by decide)]
  have u8 : (I4 v0 24).toInt = (I v0 24).toInt := by rw [f_I4.2.2.1 v0 12 24 kv0 (by decide) (by decide)]
  have u9 : (I4 v0 25).toInt = (I v0 25).toInt := by rw [f_I4.2.2.1 v0 12 25 kv0 (by decide) (by decide)]
  have u10 : (I4 v0 27).toInt = (I v0 27).toInt := by rw [f_I4.2.2.1 v0 12 27 kv0 (by decide) (by decide)]
  have rr2 := i_rng r2
  refine ⟨fun c11 => ?_, fun c11 => ?_⟩
  · skip
    first | (have t12 : r2.toInt = (0) := (i_eq rfl (show (0 : Int32).toInt = 0 from rfl)).mp c11) | (have t12 : r2.toInt = (0 : Int32).toInt := (i_eq rfl rfl).mp c11) | skip
    refine s_X12_fine w_I4 v0 kv0   (fun r13 p14 => ?_)
    have rr13 := i_rng r13
    refine ⟨fun c15 => ?_, fun c15 => ?_⟩
    · skip
      first | (have t16 : ¬ (r13.toInt = (0)) := (not_congr (i_eq rfl (show (0 : Int32).toInt = 0 from rfl))).mp c15) | (have t16 : ¬ (r13.toInt = (0 : Int32).toInt) := (not_congr (i_eq rfl rfl)).mp c15) | skip
      refine s_X12_here w_I4 v0 kv0 uR huR kuR (by omega) (fun r17 p18 => ?_)
      have rr17 := i_rng r17
      refine ⟨fun c19 => ?_, fun c19 => ?_⟩
      · skip
        first | (have t20 : ¬ (r17.toInt = (40)) := (not_congr (i_eq rfl (show (40 : Int32).toInt = 40 from rfl))).mp c19) | (have t20 : ¬ (r17.toInt = (40 : Int32).toInt) := (not_congr (i_eq rfl rfl)).mp c19) | skip
        unfold f_X12_thing_b67
        have t21 : (48 : Int32).toInt = 48 := rfl
        have t22 : (57 : Int32).toInt = 57 := rfl
        refine s_X12_in w_I4 r17 (48 : Int32) (57 : Int32)    (fun r23 p24 => ?_)
        have rr23 := i_rng r23
        refine ⟨fun c25 => ?_, fun c25 => ?_⟩
        · skip
          first | (have t26 : r23.toInt = (0) := (i_eq rfl (show (0 : Int32).toInt = 0 from rfl)).mp c25) | (have t26 : r23.toInt = (0 : Int32).toInt := (i_eq rfl rfl).mp c25) | skip
          refine ⟨fun c27 => ?_, fun c27 => ?_⟩
          · skip
            first | (have t28 : r17.toInt = (97) := (i_eq rfl (show (97 : Int32).toInt = 97 from rfl)).mp c27) | (have t28 : r17.toInt = (97 : Int32).toInt := (i_eq rfl rfl).mp c27) | skip
            unfold f_X12_thing_b140
            intro I29 eI29
            try (have t30 : ((I4 v0 26) + (1 : Int32)).toInt = ((I4 v0 26).toInt + (1)) := (i_add rfl (show (1 : Int32).toInt = 1 from rfl) (by omega) (by omega)))
            have w_I29 : WD Z I29 := by rw [eI29]; exact WD_putF w_I4 12 26 kv0 (by decide) (by decide) trivial
            have f_I29 : FR [(12, 26)] Z I4 Z I29 := by rw [eI29]; exact FR_putF kv0 (by decide) List.mem_cons_self
            have q_I29 : FR Ws_R12 Z I Z I29 := q_I4.trans w_I.1 w_I.2.1 (f_I29.mono (by decide))
            have u31 : (I29 v0 31).toInt = (I4 v0 31).toInt := by rw [f_I29.2.2.1 v0 12 31 kv0 (by decide) (by decide)]
            have u32 : (I29 v0 32).toInt = (I4 v0 32).toInt := by rw [f_I29.2.2.1 v0 12 32 kv0 (by decide) (by decide)]
            have u33 : (I29 v0 24).toInt = (I4 v0 24).toInt := by rw [f_I29.2.2.1 v0 12 24 kv0 (by decide) (by decide)]
            have u34 : (I29 v0 25).toInt = (I4 v0 25).toInt := by rw [f_I29.2.2.1 v0 12 25 kv0 (by decide) (by decide)]
            have u35 : (I29 v0 27).toInt = (I4 v0 27).toInt := by rw [f_I29.2.2.1 v0 12 27 kv0 (by decide) (by decide)]
            first | (have u36 : (I29 v0 26).toInt = ((I4 v0 26).toInt + (1)) := by (rw [eI29, show jpI I4 v0 26 ((I4 v0 26) + (1 : Int32)) v0 26 = ((I4 v0 26) + (1 : Int32)) from jpI_at] <;> exact (i_add rfl (show (1 : Int32).toInt = 1 from rfl) (by omega) (by omega)))) | skip
            refine ⟨fun c37 => ?_, fun c37 => ?_⟩
            · skip
              first | (have t38 : ¬ ((I29 v0 31).toInt = (-1)) := (not_congr (i_eq rfl (show (-1 : Int32).toInt = -1 from rfl))).mp c37) | (have t38 : ¬ ((I29 v0 31).toInt = (-1 : Int32).toInt) := (not_congr (i_eq rfl rfl)).mp c37) | skip
              refine s_X12_letter w_I29 v0 ((r17.toUInt32 % 65536).toInt32) kv0  (by omega) (fun r39  => ?_)
              have rr39 := i_rng r39
              exact hQ r39 I29 L5 w_I29 q_I29 (by omega)
            · skip
              first | (have t40 : (I29 v0 31).toInt = (-1) := (i_eq rfl (show (-1 : Int32).toInt = -1 from rfl)).mp c37) | (have t40 : (I29 v0 31).toInt = (-1 : Int32).toInt := (i_eq rfl rfl).mp c37) | skip
              have t41 : (0 : Int32).toInt = 0 := rfl
              exact hQ (0 : Int32) I29 L5 w_I29 q_I29 (by omega)
          · skip
            first | (have t42 : ¬ (r17.toInt = (97)) := (not_congr (i_eq rfl (show (97 : Int32).toInt = 97 from rfl))).mp c27) | (have t42 : ¬ (r17.toInt = (97 : Int32).toInt) := (not_congr (i_eq rfl rfl)).mp c27) | skip
            refine ⟨fun c43 => ?_, fun c43 => ?_⟩
            · skip
              first | (have t44 : r17.toInt = (114) := (i_eq rfl (show (114 : Int32).toInt = 114 from rfl)).mp c43) | (have t44 : r17.toInt = (114 : Int32).toInt := (i_eq rfl rfl).mp c43) | skip
              unfold f_X12_thing_b140
              intro I45 eI45
              try (have t46 : ((I4 v0 26) + (1 : Int32)).toInt = ((I4 v0 26).toInt + (1)) := (i_add rfl (show (1 : Int32).toInt = 1 from rfl) (by omega) (by omega)))
              have w_I45 : WD Z I45 := by rw [eI45]; exact WD_putF w_I4 12 26 kv0 (by decide) (by decide) trivial
              have f_I45 : FR [(12, 26)] Z I4 Z I45 := by rw [eI45]; exact FR_putF kv0 (by decide) List.mem_cons_self
              have q_I45 : FR Ws_R12 Z I Z I45 := q_I4.trans w_I.1 w_I.2.1 (f_I45.mono (by decide))
              have u47 : (I45 v0 31).toInt = (I4 v0 31).toInt := by rw [f_I45.2.2.1 v0 12 31 kv0 (by decide) (by decide)]
              have u48 : (I45 v0 32).toInt = (I4 v0 32).toInt := by rw [f_I45.2.2.1 v0 12 32 kv0 (by decide) (by decide)]
              have u49 : (I45 v0 24).toInt = (I4 v0 24).toInt := by rw [f_I45.2.2.1 v0 12 24 kv0 (by decide) (by decide)]
              have u50 : (I45 v0 25).toInt = (I4 v0 25).toInt := by rw [f_I45.2.2.1 v0 12 25 kv0 (by decide) (by decide)]
              have u51 : (I45 v0 27).toInt = (I4 v0 27).toInt := by rw [f_I45.2.2.1 v0 12 27 kv0 (by decide) (by decide)]
              first | (have u52 : (I45 v0 26).toInt = ((I4 v0 26).toInt + (1)) := by (rw [eI45, show jpI I4 v0 26 ((I4 v0 26) + (1 : Int32)) v0 26 = ((I4 v0 26) + (1 : Int32)) from jpI_at] <;> exact (i_add rfl (show (1 : Int32).toInt = 1 from rfl) (by omega) (by omega)))) | skip
              refine ⟨fun c53 => ?_, fun c53 => ?_⟩
              · skip
                first | (have t54 : ¬ ((I45 v0 31).toInt = (-1)) := (not_congr (i_eq rfl (show (-1 : Int32).toInt = -1 from rfl))).mp c53) | (have t54 : ¬ ((I45 v0 31).toInt = (-1 : Int32).toInt) := (not_congr (i_eq rfl rfl)).mp c53) | skip
                refine s_X12_letter w_I45 v0 ((r17.toUInt32 % 65536).toInt32) kv0  (by omega) (fun r55  => ?_)
                have rr55 := i_rng r55
                exact hQ r55 I45 L5 w_I45 q_I45 (by omega)
              · skip
                first | (have t56 : (I45 v0 31).toInt = (-1) := (i_eq rfl (show (-1 : Int32).toInt = -1 from rfl)).mp c53) | (have t56 : (I45 v0 31).toInt = (-1 : Int32).toInt := (i_eq rfl rfl).mp c53) | skip
                have t57 : (0 : Int32).toInt = 0 := rfl
                exact hQ (0 : Int32) I45 L5 w_I45 q_I45 (by omega)
            · skip
              first | (have t58 : ¬ (r17.toInt = (114)) := (not_congr (i_eq rfl (show (114 : Int32).toInt = 114 from rfl))).mp c43) | (have t58 : ¬ (r17.toInt = (114 : Int32).toInt) := (not_congr (i_eq rfl rfl)).mp c43) | skip
              refine ⟨fun c59 => ?_, fun c59 => ?_⟩
              · skip
                first | (have t60 : r17.toInt = (115) := (i_eq rfl (show (115 : Int32).toInt = 115 from rfl)).mp c59) | (have t60 : r17.toInt = (115 : Int32).toInt := (i_eq rfl rfl).mp c59) | skip
                unfold f_X12_thing_b140
                intro I61 eI61
                try (have t62 : ((I4 v0 26) + (1 : Int32)).toInt = ((I4 v0 26).toInt + (1)) := (i_add rfl (show (1 : Int32).toInt = 1 from rfl) (by omega) (by omega)))
                have w_I61 : WD Z I61 := by rw [eI61]; exact WD_putF w_I4 12 26 kv0 (by decide) (by decide) trivial
                have f_I61 : FR [(12, 26)] Z I4 Z I61 := by rw [eI61]; exact FR_putF kv0 (by decide) List.mem_cons_self
                have q_I61 : FR Ws_R12 Z I Z I61 := q_I4.trans w_I.1 w_I.2.1 (f_I61.mono (by decide))
                have u63 : (I61 v0 31).toInt = (I4 v0 31).toInt := by rw [f_I61.2.2.1 v0 12 31 kv0 (by decide) (by decide)]
                have u64 : (I61 v0 32).toInt = (I4 v0 32).toInt := by rw [f_I61.2.2.1 v0 12 32 kv0 (by decide) (by decide)]
                have u65 : (I61 v0 24).toInt = (I4 v0 24).toInt := by rw [f_I61.2.2.1 v0 12 24 kv0 (by decide) (by decide)]
                have u66 : (I61 v0 25).toInt = (I4 v0 25).toInt := by rw [f_I61.2.2.1 v0 12 25 kv0 (by decide) (by decide)]
                have u67 : (I61 v0 27).toInt = (I4 v0 27).toInt := by rw [f_I61.2.2.1 v0 12 27 kv0 (by decide) (by decide)]
                first | (have u68 : (I61 v0 26).toInt = ((I4 v0 26).toInt + (1)) := by (rw [eI61, show jpI I4 v0 26 ((I4 v0 26) + (1 : Int32)) v0 26 = ((I4 v0 26) + (1 : Int32)) from jpI_at] <;> exact (i_add rfl (show (1 : Int32).toInt = 1 from rfl) (by omega) (by omega)))) | skip
                refine ⟨fun c69 => ?_, fun c69 => ?_⟩
                · skip
                  first | (have t70 : ¬ ((I61 v0 31).toInt = (-1)) := (not_congr (i_eq rfl (show (-1 : Int32).toInt = -1 from rfl))).mp c69) | (have t70 : ¬ ((I61 v0 31).toInt = (-1 : Int32).toInt) := (not_congr (i_eq rfl rfl)).mp c69) | skip
                  refine s_X12_letter w_I61 v0 ((r17.toUInt32 % 65536).toInt32) kv0  (by omega) (fun r71  => ?_)
                  have rr71 := i_rng r71
                  exact hQ r71 I61 L5 w_I61 q_I61 (by omega)
                · skip
                  first | (have t72 : (I61 v0 31).toInt = (-1) := (i_eq rfl (show (-1 : Int32).toInt = -1 from rfl)).mp c69) | (have t72 : (I61 v0 31).toInt = (-1 : Int32).toInt := (i_eq rfl rfl).mp c69) | skip
                  have t73 : (0 : Int32).toInt = 0 := rfl
                  exact hQ (0 : Int32) I61 L5 w_I61 q_I61 (by omega)
              · skip
                first | (have t74 : ¬ (r17.toInt = (115)) := (not_congr (i_eq rfl (show (115 : Int32).toInt = 115 from rfl))).mp c59) | (have t74 : ¬ (r17.toInt = (115 : Int32).toInt) := (not_congr (i_eq rfl rfl)).mp c59) | skip
                refine ⟨fun c75 => ?_, fun c75 => ?_⟩
                · skip
                  first | (have t76 : r17.toInt = (119) := (i_eq rfl (show (119 : Int32).toInt = 119 from rfl)).mp c75) | (have t76 : r17.toInt = (119 : Int32).toInt := (i_eq rfl rfl).mp c75) | skip
                  unfold f_X12_thing_b140
                  intro I77 eI77
                  try (have t78 : ((I4 v0 26) + (1 : Int32)).toInt = ((I4 v0 26).toInt + (1)) := (i_add rfl (show (1 : Int32).toInt = 1 from rfl) (by omega) (by omega)))
                  have w_I77 : WD Z I77 := by rw [eI77]; exact WD_putF w_I4 12 26 kv0 (by decide) (by decide) trivial
                  have f_I77 : FR [(12, 26)] Z I4 Z I77 := by rw [eI77]; exact FR_putF kv0 (by decide) List.mem_cons_self
                  have q_I77 : FR Ws_R12 Z I Z I77 := q_I4.trans w_I.1 w_I.2.1 (f_I77.mono (by decide))
                  have u79 : (I77 v0 31).toInt = (I4 v0 31).toInt := by rw [f_I77.2.2.1 v0 12 31 kv0 (by decide) (by decide)]
                  have u80 : (I77 v0 32).toInt = (I4 v0 32).toInt := by rw [f_I77.2.2.1 v0 12 32 kv0 (by decide) (by decide)]
                  have u81 : (I77 v0 24).toInt = (I4 v0 24).toInt := by rw [f_I77.2.2.1 v0 12 24 kv0 (by decide) (by decide)]
                  have u82 : (I77 v0 25).toInt = (I4 v0 25).toInt := by rw [f_I77.2.2.1 v0 12 25 kv0 (by decide) (by decide)]
                  have u83 : (I77 v0 27).toInt = (I4 v0 27).toInt := by rw [f_I77.2.2.1 v0 12 27 kv0 (by decide) (by decide)]
                  first | (have u84 : (I77 v0 26).toInt = ((I4 v0 26).toInt + (1)) := by (rw [eI77, show jpI I4 v0 26 ((I4 v0 26) + (1 : Int32)) v0 26 = ((I4 v0 26) + (1 : Int32)) from jpI_at] <;> exact (i_add rfl (show (1 : Int32).toInt = 1 from rfl) (by omega) (by omega)))) | skip
                  refine ⟨fun c85 => ?_, fun c85 => ?_⟩
                  · skip
                    first | (have t86 : ¬ ((I77 v0 31).toInt = (-1)) := (not_congr (i_eq rfl (show (-1 : Int32).toInt = -1 from rfl))).mp c85) | (have t86 : ¬ ((I77 v0 31).toInt = (-1 : Int32).toInt) := (not_congr (i_eq rfl rfl)).mp c85) | skip
                    refine s_X12_letter w_I77 v0 ((r17.toUInt32 % 65536).toInt32) kv0  (by omega) (fun r87  => ?_)
                    have rr87 := i_rng r87
                    exact hQ r87 I77 L5 w_I77 q_I77 (by omega)
                  · skip
                    first | (have t88 : (I77 v0 31).toInt = (-1) := (i_eq rfl (show (-1 : Int32).toInt = -1 from rfl)).mp c85) | (have t88 : (I77 v0 31).toInt = (-1 : Int32).toInt := (i_eq rfl rfl).mp c85) | skip
                    have t89 : (0 : Int32).toInt = 0 := rfl
                    exact hQ (0 : Int32) I77 L5 w_I77 q_I77 (by omega)
                · skip
                  first | (have t90 : ¬ (r17.toInt = (119)) := (not_congr (i_eq rfl (show (119 : Int32).toInt = 119 from rfl))).mp c75) | (have t90 : ¬ (r17.toInt = (119 : Int32).toInt) := (not_congr (i_eq rfl rfl)).mp c75) | skip
                  refine ⟨fun c91 => ?_, fun c91 => ?_⟩
                  · skip
                    first | (have t92 : r17.toInt = (120) := (i_eq rfl (show (120 : Int32).toInt = 120 from rfl)).mp c91) | (have t92 : r17.toInt = (120 : Int32).toInt := (i_eq rfl rfl).mp c91) | skip
                    unfold f_X12_thing_b140
                    intro I93 eI93
                    try (have t94 : ((I4 v0 26) + (1 : Int32)).toInt = ((I4 v0 26).toInt + (1)) := (i_add rfl (show (1 : Int32).toInt = 1 from rfl) (by omega) (by omega)))
                    have w_I93 : WD Z I93 := by rw [eI93]; exact WD_putF w_I4 12 26 kv0 (by decide) (by decide) trivial
                    have f_I93 : FR [(12, 26)] Z I4 Z I93 := by rw [eI93]; exact FR_putF kv0 (by decide) List.mem_cons_self
                    have q_I93 : FR Ws_R12 Z I Z I93 := q_I4.trans w_I.1 w_I.2.1 (f_I93.mono (by decide))
                    have u95 : (I93 v0 31).toInt = (I4 v0 31).toInt := by rw [f_I93.2.2.1 v0 12 31 kv0 (by decide) (by decide)]
                    have u96 : (I93 v0 32).toInt = (I4 v0 32).toInt := by rw [f_I93.2.2.1 v0 12 32 kv0 (by decide) (by decide)]
                    have u97 : (I93 v0 24).toInt = (I4 v0 24).toInt := by rw [f_I93.2.2.1 v0 12 24 kv0 (by decide) (by decide)]
                    have u98 : (I93 v0 25).toInt = (I4 v0 25).toInt := by rw [f_I93.2.2.1 v0 12 25 kv0 (by decide) (by decide)]
                    have u99 : (I93 v0 27).toInt = (I4 v0 27).toInt := by rw [f_I93.2.2.1 v0 12 27 kv0 (by decide) (by decide)]
                    first | (have u100 : (I93 v0 26).toInt = ((I4 v0 26).toInt + (1)) := by (rw [eI93, show jpI I4 v0 26 ((I4 v0 26) + (1 : Int32)) v0 26 = ((I4 v0 26) + (1 : Int32)) from jpI_at] <;> exact (i_add rfl (show (1 : Int32).toInt = 1 from rfl) (by omega) (by omega)))) | skip
                    refine ⟨fun c101 => ?_, fun c101 => ?_⟩
                    · skip
                      first | (have t102 : ¬ ((I93 v0 31).toInt = (-1)) := (not_congr (i_eq rfl (show (-1 : Int32).toInt = -1 from rfl))).mp c101) | (have t102 : ¬ ((I93 v0 31).toInt = (-1 : Int32).toInt) := (not_congr (i_eq rfl rfl)).mp c101) | skip
                      refine s_X12_letter w_I93 v0 ((r17.toUInt32 % 65536).toInt32) kv0  (by omega) (fun r103  => ?_)
                      have rr103 := i_rng r103
                      exact hQ r103 I93 L5 w_I93 q_I93 (by omega)
                    · skip
                      first | (have t104 : (I93 v0 31).toInt = (-1) := (i_eq rfl (show (-1 : Int32).toInt = -1 from rfl)).mp c101) | (have t104 : (I93 v0 31).toInt = (-1 : Int32).toInt := (i_eq rfl rfl).mp c101) | skip
                      have t105 : (0 : Int32).toInt = 0 := rfl
                      exact hQ (0 : Int32) I93 L5 w_I93 q_I93 (by omega)
                  · skip
                    first | (have t106 : ¬ (r17.toInt = (120)) := (not_congr (i_eq rfl (show (120 : Int32).toInt = 120 from rfl))).mp c91) | (have t106 : ¬ (r17.toInt = (120 : Int32).toInt) := (not_congr (i_eq rfl rfl)).mp c91) | skip
                    refine ⟨fun c107 => ?_, fun c107 => ?_⟩
                    · skip
                      first | (have t108 : r17.toInt = (108) := (i_eq rfl (show (108 : Int32).toInt = 108 from rfl)).mp c107) | (have t108 : r17.toInt = (108 : Int32).toInt := (i_eq rfl rfl).mp c107) | skip
                      unfold f_X12_thing_b140
                      intro I109 eI109
                      try (have t110 : ((I4 v0 26) + (1 : Int32)).toInt = ((I4 v0 26).toInt + (1)) := (i_add rfl (show (1 : Int32).toInt = 1 from rfl) (by omega) (by omega)))
                      have w_I109 : WD Z I109 := by rw [eI109]; exact WD_putF w_I4 12 26 kv0 (by decide) (by decide) trivial
                      have f_I109 : FR [(12, 26)] Z I4 Z I109 := by rw [eI109]; exact FR_putF kv0 (by decide) List.mem_cons_self
                      have q_I109 : FR Ws_R12 Z I Z I109 := q_I4.trans w_I.1 w_I.2.1 (f_I109.mono (by decide))
                      have u111 : (I109 v0 31).toInt = (I4 v0 31).toInt := by rw [f_I109.2.2.1 v0 12 31 kv0 (by decide) (by decide)]
                      have u112 : (I109 v0 32).toInt = (I4 v0 32).toInt := by rw [f_I109.2.2.1 v0 12 32 kv0 (by decide) (by decide)]
                      have u113 : (I109 v0 24).toInt = (I4 v0 24).toInt := by rw [f_I109.2.2.1 v0 12 24 kv0 (by decide) (by decide)]
                      have u114 : (I109 v0 25).toInt = (I4 v0 25).toInt := by rw [f_I109.2.2.1 v0 12 25 kv0 (by decide) (by decide)]
                      have u115 : (I109 v0 27).toInt = (I4 v0 27).toInt := by rw [f_I109.2.2.1 v0 12 27 kv0 (by decide) (by decide)]
                      first | (have u116 : (I109 v0 26).toInt = ((I4 v0 26).toInt + (1)) := by (rw [eI109, show jpI I4 v0 26 ((I4 v0 26) + (1 : Int32)) v0 26 = ((I4 v0 26) + (1 : Int32)) from jpI_at] <;> exact (i_add rfl (show (1 : Int32).toInt = 1 from rfl) (by omega) (by omega)))) | skip
                      refine ⟨fun c117 => ?_, fun c117 => ?_⟩
                      · skip
                        first | (have t118 : ¬ ((I109 v0 31).toInt = (-1)) := (not_congr (i_eq rfl (show (-1 : Int32).toInt = -1 from rfl))).mp c117) | (have t118 : ¬ ((I109 v0 31).toInt = (-1 : Int32).toInt) := (not_congr (i_eq rfl rfl)).mp c117) | skip
                        refine s_X12_letter w_I109 v0 ((r17.toUInt32 % 65536).toInt32) kv0  (by omega) (fun r119  => ?_)
                        have rr119 := i_rng r119
                        exact hQ r119 I109 L5 w_I109 q_I109 (by omega)
                      · skip
                        first | (have t120 : (I109 v0 31).toInt = (-1) := (i_eq rfl (show (-1 : Int32).toInt = -1 from rfl)).mp c117) | (have t120 : (I109 v0 31).toInt = (-1 : Int32).toInt := (i_eq rfl rfl).mp c117) | skip
                        have t121 : (0 : Int32).toInt = 0 := rfl
                        exact hQ (0 : Int32) I109 L5 w_I109 q_I109 (by omega)
                    · skip
                      first | (have t122 : ¬ (r17.toInt = (108)) := (not_congr (i_eq rfl (show (108 : Int32).toInt = 108 from rfl))).mp c107) | (have t122 : ¬ (r17.toInt = (108 : Int32).toInt) := (not_congr (i_eq rfl rfl)).mp c107) | skip
                      refine ⟨fun c123 => ?_, fun c123 => ?_⟩
                      · skip
                        first | (have t124 : r17.toInt = (106) := (i_eq rfl (show (106 : Int32).toInt = 106 from rfl)).mp c123) | (have t124 : r17.toInt = (106 : Int32).toInt := (i_eq rfl rfl).mp c123) | skip
                        unfold f_X12_thing_b140
                        intro I125 eI125
                        try (have t126 : ((I4 v0 26) + (1 : Int32)).toInt = ((I4 v0 26).toInt + (1)) := (i_add rfl (show (1 : Int32).toInt = 1 from rfl) (by omega) (by omega)))
                        have w_I125 : WD Z I125 := by rw [eI125]; exact WD_putF w_I4 12 26 kv0 (by decide) (by decide) trivial
                        have f_I125 : FR [(12, 26)] Z I4 Z I125 := by rw [eI125]; exact FR_putF kv0 (by decide) List.mem_cons_self
                        have q_I125 : FR Ws_R12 Z I Z I125 := q_I4.trans w_I.1 w_I.2.1 (f_I125.mono (by decide))
                        have u127 : (I125 v0 31).toInt = (I4 v0 31).toInt := by rw [f_I125.2.2.1 v0 12 31 kv0 (by decide) (by decide)]
                        have u128 : (I125 v0 32).toInt = (I4 v0 32).toInt := by rw [f_I125.2.2.1 v0 12 32 kv0 (by decide) (by decide)]
                        have u129 : (I125 v0 24).toInt = (I4 v0 24).toInt := by rw [f_I125.2.2.1 v0 12 24 kv0 (by decide) (by decide)]
                        have u130 : (I125 v0 25).toInt = (I4 v0 25).toInt := by rw [f_I125.2.2.1 v0 12 25 kv0 (by decide) (by decide)]
                        have u131 : (I125 v0 27).toInt = (I4 v0 27).toInt := by rw [f_I125.2.2.1 v0 12 27 kv0 (by decide) (by decide)]
                        first | (have u132 : (I125 v0 26).toInt = ((I4 v0 26).toInt + (1)) := by (rw [eI125, show jpI I4 v0 26 ((I4 v0 26) + (1 : Int32)) v0 26 = ((I4 v0 26) + (1 : Int32)) from jpI_at] <;> exact (i_add rfl (show (1 : Int32).toInt = 1 from rfl) (by omega) (by omega)))) | skip
                        refine ⟨fun c133 => ?_, fun c133 => ?_⟩
                        · skip
                          first | (have t134 : ¬ ((I125 v0 31).toInt = (-1)) := (not_congr (i_eq rfl (show (-1 : Int32).toInt = -1 from rfl))).mp c133) | (have t134 : ¬ ((I125 v0 31).toInt = (-1 : Int32).toInt) := (not_congr (i_eq rfl rfl)).mp c133) | skip
                          refine s_X12_letter w_I125 v0 ((r17.toUInt32 % 65536).toInt32) kv0  (by omega) (fun r135  => ?_)
                          have rr135 := i_rng r135
                          exact hQ r135 I125 L5 w_I125 q_I125 (by omega)
                        · skip
                          first | (have t136 : (I125 v0 31).toInt = (-1) := (i_eq rfl (show (-1 : Int32).toInt = -1 from rfl)).mp c133) | (have t136 : (I125 v0 31).toInt = (-1 : Int32).toInt := (i_eq rfl rfl).mp c133) | skip
                          have t137 : (0 : Int32).toInt = 0 := rfl
                          exact hQ (0 : Int32) I125 L5 w_I125 q_I125 (by omega)
                      · skip
                        first | (have t138 : ¬ (r17.toInt = (106)) := (not_congr (i_eq rfl (show (106 : Int32).toInt = 106 from rfl))).mp c123) | (have t138 : ¬ (r17.toInt = (106 : Int32).toInt) := (not_congr (i_eq rfl rfl)).mp c123) | skip
                        refine s_X12_fault w_I4 v0 (I4 v0 26) kv0   (fun  I140 L141 w_I140 f_I140 p139 => ?_)
                        have q_I140 : FR Ws_R12 Z I Z I140 := q_I4.trans w_I.1 w_I.2.1 (f_I140.mono (by decide))
                        have u142 : (I140 v0 31).toInt = (I4 v0 31).toInt := by rw [f_I140.2.2.1 v0 12 31 kv0 (by decide) (by decide)]
                        have u143 : (I140 v0 32).toInt = (I4 v0 32).toInt := by rw [f_I140.2.2.1 v0 12 32 kv0 (by decide) (by decide)]
                        have u144 : (I140 v0 24).toInt = (I4 v0 24).toInt := by rw [f_I140.2.2.1 v0 12 24 kv0 (by decide) (by decide)]
                        have u145 : (I140 v0 25).toInt = (I4 v0 25).toInt := by rw [f_I140.2.2.1 v0 12 25 kv0 (by decide) (by decide)]
                        have u146 : (I140 v0 26).toInt = (I4 v0 26).toInt := by rw [f_I140.2.2.1 v0 12 26 kv0 (by decide) (by decide)]
                        have t147 : (0 : Int32).toInt = 0 := rfl
                        exact hQ (0 : Int32) I140 L141 w_I140 q_I140 (by omega)
        · skip
          first | (have t148 : ¬ (r23.toInt = (0)) := (not_congr (i_eq rfl (show (0 : Int32).toInt = 0 from rfl))).mp c25) | (have t148 : ¬ (r23.toInt = (0 : Int32).toInt) := (not_congr (i_eq rfl rfl)).mp c25) | skip
          have t149 : (3 : Int32).toInt = 3 := rfl
          have t150 : (0 : Int32).toInt = 0 := rfl
          have t151 : (999 : Int32).toInt = 999 := rfl
          refine s_X12_number w_I4 v0 (3 : Int32) (0 : Int32) (999 : Int32) kv0 uR huR kuR (by omega) (by omega) (fun r152 I154 L155 w_I154 f_I154 p153 => ?_)
          have q_I154 : FR Ws_R12 Z I Z I154 := q_I4.trans w_I.1 w_I.2.1 (f_I154.mono (by decide))
          have u156 : (I154 v0 31).toInt = (I4 v0 31).toInt := by rw [f_I154.2.2.1 v0 12 31 kv0 (by decide) (by decide)]
          have u157 : (I154 v0 32).toInt = (I4 v0 32).toInt := by rw [f_I154.2.2.1 v0 12 32 kv0 (by decide) (by decide)]
          have u158 : (I154 v0 24).toInt = (I4 v0 24).toInt := by rw [f_I154.2.2.1 v0 12 24 kv0 (by decide) (by decide)]
          have u159 : (I154 v0 25).toInt = (I4 v0 25).toInt := by rw [f_I154.2.2.1 v0 12 25 kv0 (by decide) (by decide)]
          have rr152 := i_rng r152
          exact hQ r152 I154 L155 w_I154 q_I154 (by omega)
      · skip
        first | (have t160 : r17.toInt = (40) := (i_eq rfl (show (40 : Int32).toInt = 40 from rfl)).mp c19) | (have t160 : r17.toInt = (40 : Int32).toInt := (i_eq rfl rfl).mp c19) | skip
        refine ⟨fun c161 => ?_, fun c161 => ?_⟩
        · skip
          first | (have t162 : (4) ≤ v1.toInt := (i_le (show (4 : Int32).toInt = 4 from rfl) rfl).mp c161) | (have t162 : (4 : Int32).toInt ≤ v1.toInt := (i_le rfl rfl).mp c161) | skip
          unfold f_X12_thing_b67
          have t163 : (48 : Int32).toInt = 48 := rfl
          have t164 : (57 : Int32).toInt = 57 := rfl
          refine s_X12_in w_I4 r17 (48 : Int32) (57 : Int32)    (fun r165 p166 => ?_)
          have rr165 := i_rng r165
          refine ⟨fun c167 => ?_, fun c167 => ?_⟩
          · skip
            first | (have t168 : r165.toInt = (0) := (i_eq rfl (show (0 : Int32).toInt = 0 from rfl)).mp c167) | (have t168 : r165.toInt = (0 : Int32).toInt := (i_eq rfl rfl).mp c167) | skip
            refine ⟨fun c169 => ?_, fun c169 => ?_⟩
            · skip
              first | (have t170 : r17.toInt = (97) := (i_eq rfl (show (97 : Int32).toInt = 97 from rfl)).mp c169) | (have t170 : r17.toInt = (97 : Int32).toInt := (i_eq rfl rfl).mp c169) | skip
              unfold f_X12_thing_b140
              intro I171 eI171
              try (have t172 : ((I4 v0 26) + (1 : Int32)).toInt = ((I4 v0 26).toInt + (1)) := (i_add rfl (show (1 : Int32).toInt = 1 from rfl) (by omega) (by omega)))
              have w_I171 : WD Z I171 := by rw [eI171]; exact WD_putF w_I4 12 26 kv0 (by decide) (by decide) trivial
              have f_I171 : FR [(12, 26)] Z I4 Z I171 := by rw [eI171]; exact FR_putF kv0 (by decide) List.mem_cons_self
              have q_I171 : FR Ws_R12 Z I Z I171 := q_I4.trans w_I.1 w_I.2.1 (f_I171.mono (by decide))
              have u173 : (I171 v0 31).toInt = (I4 v0 31).toInt := by rw [f_I171.2.2.1 v0 12 31 kv0 (by decide) (by decide)]
              have u174 : (I171 v0 32).toInt = (I4 v0 32).toInt := by rw [f_I171.2.2.1 v0 12 32 kv0 (by decide) (by decide)]
              have u175 : (I171 v0 24).toInt = (I4 v0 24).toInt := by rw [f_I171.2.2.1 v0 12 24 kv0 (by decide) (by decide)]
              have u176 : (I171 v0 25).toInt = (I4 v0 25).toInt := by rw [f_I171.2.2.1 v0 12 25 kv0 (by decide) (by decide)]
              have u177 : (I171 v0 27).toInt = (I4 v0 27).toInt := by rw [f_I171.2.2.1 v0 12 27 kv0 (by decide) (by decide)]
              first | (have u178 : (I171 v0 26).toInt = ((I4 v0 26).toInt + (1)) := by (rw [eI171, show jpI I4 v0 26 ((I4 v0 26) + (1 : Int32)) v0 26 = ((I4 v0 26) + (1 : Int32)) from jpI_at] <;> exact (i_add rfl (show (1 : Int32).toInt = 1 from rfl) (by omega) (by omega)))) | skip
              refine ⟨fun c179 => ?_, fun c179 => ?_⟩
              · skip
                first | (have t180 : ¬ ((I171 v0 31).toInt = (-1)) := (not_congr (i_eq rfl (show (-1 : Int32).toInt = -1 from rfl))).mp c179) | (have t180 : ¬ ((I171 v0 31).toInt = (-1 : Int32).toInt) := (not_congr (i_eq rfl rfl)).mp c179) | skip
                refine s_X12_letter w_I171 v0 ((r17.toUInt32 % 65536).toInt32) kv0  (by omega) (fun r181  => ?_)
                have rr181 := i_rng r181
                exact hQ r181 I171 L5 w_I171 q_I171 (by omega)
              · skip
                first | (have t182 : (I171 v0 31).toInt = (-1) := (i_eq rfl (show (-1 : Int32).toInt = -1 from rfl)).mp c179) | (have t182 : (I171 v0 31).toInt = (-1 : Int32).toInt := (i_eq rfl rfl).mp c179) | skip
                have t183 : (0 : Int32).toInt = 0 := rfl
                exact hQ (0 : Int32) I171 L5 w_I171 q_I171 (by omega)
            · skip
              first | (have t184 : ¬ (r17.toInt = (97)) := (not_congr (i_eq rfl (show (97 : Int32).toInt = 97 from rfl))).mp c169) | (have t184 : ¬ (r17.toInt = (97 : Int32).toInt) := (not_congr (i_eq rfl rfl)).mp c169) | skip
              refine ⟨fun c185 => ?_, fun c185 => ?_⟩
              · skip
                first | (have t186 : r17.toInt = (114) := (i_eq rfl (show (114 : Int32).toInt = 114 from rfl)).mp c185) | (have t186 : r17.toInt = (114 : Int32).toInt := (i_eq rfl rfl).mp c185) | skip
                unfold f_X12_thing_b140
                intro I187 eI187
                try (have t188 : ((I4 v0 26) + (1 : Int32)).toInt = ((I4 v0 26).toInt + (1)) := (i_add rfl (show (1 : Int32).toInt = 1 from rfl) (by omega) (by omega)))
                have w_I187 : WD Z I187 := by rw [eI187]; exact WD_putF w_I4 12 26 kv0 (by decide) (by decide) trivial
                have f_I187 : FR [(12, 26)] Z I4 Z I187 := by rw [eI187]; exact FR_putF kv0 (by decide) List.mem_cons_self
                have q_I187 : FR Ws_R12 Z I Z I187 := q_I4.trans w_I.1 w_I.2.1 (f_I187.mono (by decide))
                have u189 : (I187 v0 31).toInt = (I4 v0 31).toInt := by rw [f_I187.2.2.1 v0 12 31 kv0 (by decide) (by decide)]
                have u190 : (I187 v0 32).toInt = (I4 v0 32).toInt := by rw [f_I187.2.2.1 v0 12 32 kv0 (by decide) (by decide)]
                have u191 : (I187 v0 24).toInt = (I4 v0 24).toInt := by rw [f_I187.2.2.1 v0 12 24 kv0 (by decide) (by decide)]
                have u192 : (I187 v0 25).toInt = (I4 v0 25).toInt := by rw [f_I187.2.2.1 v0 12 25 kv0 (by decide) (by decide)]
                have u193 : (I187 v0 27).toInt = (I4 v0 27).toInt := by rw [f_I187.2.2.1 v0 12 27 kv0 (by decide) (by decide)]
                first | (have u194 : (I187 v0 26).toInt = ((I4 v0 26).toInt + (1)) := by (rw [eI187, show jpI I4 v0 26 ((I4 v0 26) + (1 : Int32)) v0 26 = ((I4 v0 26) + (1 : Int32)) from jpI_at] <;> exact (i_add rfl (show (1 : Int32).toInt = 1 from rfl) (by omega) (by omega)))) | skip
                refine ⟨fun c195 => ?_, fun c195 => ?_⟩
                · skip
                  first | (have t196 : ¬ ((I187 v0 31).toInt = (-1)) := (not_congr (i_eq rfl (show (-1 : Int32).toInt = -1 from rfl))).mp c195) | (have t196 : ¬ ((I187 v0 31).toInt = (-1 : Int32).toInt) := (not_congr (i_eq rfl rfl)).mp c195) | skip
                  refine s_X12_letter w_I187 v0 ((r17.toUInt32 % 65536).toInt32) kv0  (by omega) (fun r197  => ?_)
                  have rr197 := i_rng r197
                  exact hQ r197 I187 L5 w_I187 q_I187 (by omega)
                · skip
                  first | (have t198 : (I187 v0 31).toInt = (-1) := (i_eq rfl (show (-1 : Int32).toInt = -1 from rfl)).mp c195) | (have t198 : (I187 v0 31).toInt = (-1 : Int32).toInt := (i_eq rfl rfl).mp c195) | skip
                  have t199 : (0 : Int32).toInt = 0 := rfl
                  exact hQ (0 : Int32) I187 L5 w_I187 q_I187 (by omega)
              · skip
                first | (have t200 : ¬ (r17.toInt = (114)) := (not_congr (i_eq rfl (show (114 : Int32).toInt = 114 from rfl))).mp c185) | (have t200 : ¬ (r17.toInt = (114 : Int32).toInt) := (not_congr (i_eq rfl rfl)).mp c185) | skip
                refine ⟨fun c201 => ?_, fun c201 => ?_⟩
                · skip
                  first | (have t202 : r17.toInt = (115) := (i_eq rfl (show (115 : Int32).toInt = 115 from rfl)).mp c201) | (have t202 : r17.toInt = (115 : Int32).toInt := (i_eq rfl rfl).mp c201) | skip
                  unfold f_X12_thing_b140
                  intro I203 eI203
                  try (have t204 : ((I4 v0 26) + (1 : Int32)).toInt = ((I4 v0 26).toInt + (1)) := (i_add rfl (show (1 : Int32).toInt = 1 from rfl) (by omega) (by omega)))
                  have w_I203 : WD Z I203 := by rw [eI203]; exact WD_putF w_I4 12 26 kv0 (by decide) (by decide) trivial
                  have f_I203 : FR [(12, 26)] Z I4 Z I203 := by rw [eI203]; exact FR_putF kv0 (by decide) List.mem_cons_self
                  have q_I203 : FR Ws_R12 Z I Z I203 := q_I4.trans w_I.1 w_I.2.1 (f_I203.mono (by decide))
                  have u205 : (I203 v0 31).toInt = (I4 v0 31).toInt := by rw [f_I203.2.2.1 v0 12 31 kv0 (by decide) (by decide)]
                  have u206 : (I203 v0 32).toInt = (I4 v0 32).toInt := by rw [f_I203.2.2.1 v0 12 32 kv0 (by decide) (by decide)]
                  have u207 : (I203 v0 24).toInt = (I4 v0 24).toInt := by rw [f_I203.2.2.1 v0 12 24 kv0 (by decide) (by decide)]
                  have u208 : (I203 v0 25).toInt = (I4 v0 25).toInt := by rw [f_I203.2.2.1 v0 12 25 kv0 (by decide) (by decide)]
                  have u209 : (I203 v0 27).toInt = (I4 v0 27).toInt := by rw [f_I203.2.2.1 v0 12 27 kv0 (by decide) (by decide)]
                  first | (have u210 : (I203 v0 26).toInt = ((I4 v0 26).toInt + (1)) := by (rw [eI203, show jpI I4 v0 26 ((I4 v0 26) + (1 : Int32)) v0 26 = ((I4 v0 26) + (1 : Int32)) from jpI_at] <;> exact (i_add rfl (show (1 : Int32).toInt = 1 from rfl) (by omega) (by omega)))) | skip
                  refine ⟨fun c211 => ?_, fun c211 => ?_⟩
                  · skip
                    first | (have t212 : ¬ ((I203 v0 31).toInt = (-1)) := (not_congr (i_eq rfl (show (-1 : Int32).toInt = -1 from rfl))).mp c211) | (have t212 : ¬ ((I203 v0 31).toInt = (-1 : Int32).toInt) := (not_congr (i_eq rfl rfl)).mp c211) | skip
                    refine s_X12_letter w_I203 v0 ((r17.toUInt32 % 65536).toInt32) kv0  (by omega) (fun r213  => ?_)
                    have rr213 := i_rng r213
                    exact hQ r213 I203 L5 w_I203 q_I203 (by omega)
                  · skip
                    first | (have t214 : (I203 v0 31).toInt = (-1) := (i_eq rfl (show (-1 : Int32).toInt = -1 from rfl)).mp c211) | (have t214 : (I203 v0 31).toInt = (-1 : Int32).toInt := (i_eq rfl rfl).mp c211) | skip
                    have t215 : (0 : Int32).toInt = 0 := rfl
                    exact hQ (0 : Int32) I203 L5 w_I203 q_I203 (by omega)
                · skip
                  first | (have t216 : ¬ (r17.toInt = (115)) := (not_congr (i_eq rfl (show (115 : Int32).toInt = 115 from rfl))).mp c201) | (have t216 : ¬ (r17.toInt = (115 : Int32).toInt) := (not_congr (i_eq rfl rfl)).mp c201) | skip
                  refine ⟨fun c217 => ?_, fun c217 => ?_⟩
                  · skip
                    first | (have t218 : r17.toInt = (119) := (i_eq rfl (show (119 : Int32).toInt = 119 from rfl)).mp c217) | (have t218 : r17.toInt = (119 : Int32).toInt := (i_eq rfl rfl).mp c217) | skip
                    unfold f_X12_thing_b140
                    intro I219 eI219
                    try (have t220 : ((I4 v0 26) + (1 : Int32)).toInt = ((I4 v0 26).toInt + (1)) := (i_add rfl (show (1 : Int32).toInt = 1 from rfl) (by omega) (by omega)))
                    have w_I219 : WD Z I219 := by rw [eI219]; exact WD_putF w_I4 12 26 kv0 (by decide) (by decide) trivial
                    have f_I219 : FR [(12, 26)] Z I4 Z I219 := by rw [eI219]; exact FR_putF kv0 (by decide) List.mem_cons_self
                    have q_I219 : FR Ws_R12 Z I Z I219 := q_I4.trans w_I.1 w_I.2.1 (f_I219.mono (by decide))
                    have u221 : (I219 v0 31).toInt = (I4 v0 31).toInt := by rw [f_I219.2.2.1 v0 12 31 kv0 (by decide) (by decide)]
                    have u222 : (I219 v0 32).toInt = (I4 v0 32).toInt := by rw [f_I219.2.2.1 v0 12 32 kv0 (by decide) (by decide)]
                    have u223 : (I219 v0 24).toInt = (I4 v0 24).toInt := by rw [f_I219.2.2.1 v0 12 24 kv0 (by decide) (by decide)]
                    have u224 : (I219 v0 25).toInt = (I4 v0 25).toInt := by rw [f_I219.2.2.1 v0 12 25 kv0 (by decide) (by decide)]
                    have u225 : (I219 v0 27).toInt = (I4 v0 27).toInt := by rw [f_I219.2.2.1 v0 12 27 kv0 (by decide) (by decide)]
                    first | (have u226 : (I219 v0 26).toInt = ((I4 v0 26).toInt + (1)) := by (rw [eI219, show jpI I4 v0 26 ((I4 v0 26) + (1 : Int32)) v0 26 = ((I4 v0 26) + (1 : Int32)) from jpI_at] <;> exact (i_add rfl (show (1 : Int32).toInt = 1 from rfl) (by omega) (by omega)))) | skip
                    refine ⟨fun c227 => ?_, fun c227 => ?_⟩
                    · skip
                      first | (have t228 : ¬ ((I219 v0 31).toInt = (-1)) := (not_congr (i_eq rfl (show (-1 : Int32).toInt = -1 from rfl))).mp c227) | (have t228 : ¬ ((I219 v0 31).toInt = (-1 : Int32).toInt) := (not_congr (i_eq rfl rfl)).mp c227) | skip
                      refine s_X12_letter w_I219 v0 ((r17.toUInt32 % 65536).toInt32) kv0  (by omega) (fun r229  => ?_)
                      have rr229 := i_rng r229
                      exact hQ r229 I219 L5 w_I219 q_I219 (by omega)
                    · skip
                      first | (have t230 : (I219 v0 31).toInt = (-1) := (i_eq rfl (show (-1 : Int32).toInt = -1 from rfl)).mp c227) | (have t230 : (I219 v0 31).toInt = (-1 : Int32).toInt := (i_eq rfl rfl).mp c227) | skip
                      have t231 : (0 : Int32).toInt = 0 := rfl
                      exact hQ (0 : Int32) I219 L5 w_I219 q_I219 (by omega)
                  · skip
                    first | (have t232 : ¬ (r17.toInt = (119)) := (not_congr (i_eq rfl (show (119 : Int32).toInt = 119 from rfl))).mp c217) | (have t232 : ¬ (r17.toInt = (119 : Int32).toInt) := (not_congr (i_eq rfl rfl)).mp c217) | skip
                    refine ⟨fun c233 => ?_, fun c233 => ?_⟩
                    · skip
                      first | (have t234 : r17.toInt = (120) := (i_eq rfl (show (120 : Int32).toInt = 120 from rfl)).mp c233) | (have t234 : r17.toInt = (120 : Int32).toInt := (i_eq rfl rfl).mp c233) | skip
                      unfold f_X12_thing_b140
                      intro I235 eI235
                      try (have t236 : ((I4 v0 26) + (1 : Int32)).toInt = ((I4 v0 26).toInt + (1)) := (i_add rfl (show (1 : Int32).toInt = 1 from rfl) (by omega) (by omega)))
                      have w_I235 : WD Z I235 := by rw [eI235]; exact WD_putF w_I4 12 26 kv0 (by decide) (by decide) trivial
                      have f_I235 : FR [(12, 26)] Z I4 Z I235 := by rw [eI235]; exact FR_putF kv0 (by decide) List.mem_cons_self
                      have q_I235 : FR Ws_R12 Z I Z I235 := q_I4.trans w_I.1 w_I.2.1 (f_I235.mono (by decide))
                      have u237 : (I235 v0 31).toInt = (I4 v0 31).toInt := by rw [f_I235.2.2.1 v0 12 31 kv0 (by decide) (by decide)]
                      have u238 : (I235 v0 32).toInt = (I4 v0 32).toInt := by rw [f_I235.2.2.1 v0 12 32 kv0 (by decide) (by decide)]
                      have u239 : (I235 v0 24).toInt = (I4 v0 24).toInt := by rw [f_I235.2.2.1 v0 12 24 kv0 (by decide) (by decide)]
                      have u240 : (I235 v0 25).toInt = (I4 v0 25).toInt := by rw [f_I235.2.2.1 v0 12 25 kv0 (by decide) (by decide)]
                      have u241 : (I235 v0 27).toInt = (I4 v0 27).toInt := by rw [f_I235.2.2.1 v0 12 27 kv0 (by decide) (by decide)]
                      first | (have u242 : (I235 v0 26).toInt = ((I4 v0 26).toInt + (1)) := by (rw [eI235, show jpI I4 v0 26 ((I4 v0 26) + (1 : Int32)) v0 26 = ((I4 v0 26) + (1 : Int32)) from jpI_at] <;> exact (i_add rfl (show (1 : Int32).toInt = 1 from rfl) (by omega) (by omega)))) | skip
                      refine ⟨fun c243 => ?_, fun c243 => ?_⟩
                      · skip
                        first | (have t244 : ¬ ((I235 v0 31).toInt = (-1)) := (not_congr (i_eq rfl (show (-1 : Int32).toInt = -1 from rfl))).mp c243) | (have t244 : ¬ ((I235 v0 31).toInt = (-1 : Int32).toInt) := (not_congr (i_eq rfl rfl)).mp c243) | skip
                        refine s_X12_letter w_I235 v0 ((r17.toUInt32 % 65536).toInt32) kv0  (by omega) (fun r245  => ?_)
                        have rr245 := i_rng r245
                        exact hQ r245 I235 L5 w_I235 q_I235 (by omega)
                      · skip
                        first | (have t246 : (I235 v0 31).toInt = (-1) := (i_eq rfl (show (-1 : Int32).toInt = -1 from rfl)).mp c243) | (have t246 : (I235 v0 31).toInt = (-1 : Int32).toInt := (i_eq rfl rfl).mp c243) | skip
                        have t247 : (0 : Int32).toInt = 0 := rfl
                        exact hQ (0 : Int32) I235 L5 w_I235 q_I235 (by omega)
                    · skip
                      first | (have t248 : ¬ (r17.toInt = (120)) := (not_congr (i_eq rfl (show (120 : Int32).toInt = 120 from rfl))).mp c233) | (have t248 : ¬ (r17.toInt = (120 : Int32).toInt) := (not_congr (i_eq rfl rfl)).mp c233) | skip
                      refine ⟨fun c249 => ?_, fun c249 => ?_⟩
                      · skip
                        first | (have t250 : r17.toInt = (108) := (i_eq rfl (show (108 : Int32).toInt = 108 from rfl)).mp c249) | (have t250 : r17.toInt = (108 : Int32).toInt := (i_eq rfl rfl).mp c249) | skip
                        unfold f_X12_thing_b140
                        intro I251 eI251
                        try (have t252 : ((I4 v0 26) + (1 : Int32)).toInt = ((I4 v0 26).toInt + (1)) := (i_add rfl (show (1 : Int32).toInt = 1 from rfl) (by omega) (by omega)))
                        have w_I251 : WD Z I251 := by rw [eI251]; exact WD_putF w_I4 12 26 kv0 (by decide) (by decide) trivial
                        have f_I251 : FR [(12, 26)] Z I4 Z I251 := by rw [eI251]; exact FR_putF kv0 (by decide) List.mem_cons_self
                        have q_I251 : FR Ws_R12 Z I Z I251 := q_I4.trans w_I.1 w_I.2.1 (f_I251.mono (by decide))
                        have u253 : (I251 v0 31).toInt = (I4 v0 31).toInt := by rw [f_I251.2.2.1 v0 12 31 kv0 (by decide) (by decide)]
                        have u254 : (I251 v0 32).toInt = (I4 v0 32).toInt := by rw [f_I251.2.2.1 v0 12 32 kv0 (by decide) (by decide)]
                        have u255 : (I251 v0 24).toInt = (I4 v0 24).toInt := by rw [f_I251.2.2.1 v0 12 24 kv0 (by decide) (by decide)]
                        have u256 : (I251 v0 25).toInt = (I4 v0 25).toInt := by rw [f_I251.2.2.1 v0 12 25 kv0 (by decide) (by decide)]
                        have u257 : (I251 v0 27).toInt = (I4 v0 27).toInt := by rw [f_I251.2.2.1 v0 12 27 kv0 (by decide) (by decide)]
                        first | (have u258 : (I251 v0 26).toInt = ((I4 v0 26).toInt + (1)) := by (rw [eI251, show jpI I4 v0 26 ((I4 v0 26) + (1 : Int32)) v0 26 = ((I4 v0 26) + (1 : Int32)) from jpI_at] <;> exact (i_add rfl (show (1 : Int32).toInt = 1 from rfl) (by omega) (by omega)))) | skip
                        refine ⟨fun c259 => ?_, fun c259 => ?_⟩
                        · skip
                          first | (have t260 : ¬ ((I251 v0 31).toInt = (-1)) := (not_congr (i_eq rfl (show (-1 : Int32).toInt = -1 from rfl))).mp c259) | (have t260 : ¬ ((I251 v0 31).toInt = (-1 : Int32).toInt) := (not_congr (i_eq rfl rfl)).mp c259) | skip
                          refine s_X12_letter w_I251 v0 ((r17.toUInt32 % 65536).toInt32) kv0  (by omega) (fun r261  => ?_)
                          have rr261 := i_rng r261
                          exact hQ r261 I251 L5 w_I251 q_I251 (by omega)
                        · skip
                          first | (have t262 : (I251 v0 31).toInt = (-1) := (i_eq rfl (show (-1 : Int32).toInt = -1 from rfl)).mp c259) | (have t262 : (I251 v0 31).toInt = (-1 : Int32).toInt := (i_eq rfl rfl).mp c259) | skip
                          have t263 : (0 : Int32).toInt = 0 := rfl
                          exact hQ (0 : Int32) I251 L5 w_I251 q_I251 (by omega)
                      · skip
                        first | (have t264 : ¬ (r17.toInt = (108)) := (not_congr (i_eq rfl (show (108 : Int32).toInt = 108 from rfl))).mp c249) | (have t264 : ¬ (r17.toInt = (108 : Int32).toInt) := (not_congr (i_eq rfl rfl)).mp c249) | skip
                        refine ⟨fun c265 => ?_, fun c265 => ?_⟩
                        · skip
                          first | (have t266 : r17.toInt = (106) := (i_eq rfl (show (106 : Int32).toInt = 106 from rfl)).mp c265) | (have t266 : r17.toInt = (106 : Int32).toInt := (i_eq rfl rfl).mp c265) | skip
                          unfold f_X12_thing_b140
                          intro I267 eI267
                          try (have t268 : ((I4 v0 26) + (1 : Int32)).toInt = ((I4 v0 26).toInt + (1)) := (i_add rfl (show (1 : Int32).toInt = 1 from rfl) (by omega) (by omega)))
                          have w_I267 : WD Z I267 := by rw [eI267]; exact WD_putF w_I4 12 26 kv0 (by decide) (by decide) trivial
                          have f_I267 : FR [(12, 26)] Z I4 Z I267 := by rw [eI267]; exact FR_putF kv0 (by decide) List.mem_cons_self
                          have q_I267 : FR Ws_R12 Z I Z I267 := q_I4.trans w_I.1 w_I.2.1 (f_I267.mono (by decide))
                          have u269 : (I267 v0 31).toInt = (I4 v0 31).toInt := by rw [f_I267.2.2.1 v0 12 31 kv0 (by decide) (by decide)]
                          have u270 : (I267 v0 32).toInt = (I4 v0 32).toInt := by rw [f_I267.2.2.1 v0 12 32 kv0 (by decide) (by decide)]
                          have u271 : (I267 v0 24).toInt = (I4 v0 24).toInt := by rw [f_I267.2.2.1 v0 12 24 kv0 (by decide) (by decide)]
                          have u272 : (I267 v0 25).toInt = (I4 v0 25).toInt := by rw [f_I267.2.2.1 v0 12 25 kv0 (by decide) (by decide)]
                          have u273 : (I267 v0 27).toInt = (I4 v0 27).toInt := by rw [f_I267.2.2.1 v0 12 27 kv0 (by decide) (by decide)]
                          first | (have u274 : (I267 v0 26).toInt = ((I4 v0 26).toInt + (1)) := by (rw [eI267, show jpI I4 v0 26 ((I4 v0 26) + (1 : Int32)) v0 26 = ((I4 v0 26) + (1 : Int32)) from jpI_at] <;> exact (i_add rfl (show (1 : Int32).toInt = 1 from rfl) (by omega) (by omega)))) | skip
                          refine ⟨fun c275 => ?_, fun c275 => ?_⟩
                          · skip
                            first | (have t276 : ¬ ((I267 v0 31).toInt = (-1)) := (not_congr (i_eq rfl (show (-1 : Int32).toInt = -1 from rfl))).mp c275) | (have t276 : ¬ ((I267 v0 31).toInt = (-1 : Int32).toInt) := (not_congr (i_eq rfl rfl)).mp c275) | skip
                            refine s_X12_letter w_I267 v0 ((r17.toUInt32 % 65536).toInt32) kv0  (by omega) (fun r277  => ?_)
                            have rr277 := i_rng r277
                            exact hQ r277 I267 L5 w_I267 q_I267 (by omega)
                          · skip
                            first | (have t278 : (I267 v0 31).toInt = (-1) := (i_eq rfl (show (-1 : Int32).toInt = -1 from rfl)).mp c275) | (have t278 : (I267 v0 31).toInt = (-1 : Int32).toInt := (i_eq rfl rfl).mp c275) | skip
                            have t279 : (0 : Int32).toInt = 0 := rfl
                            exact hQ (0 : Int32) I267 L5 w_I267 q_I267 (by omega)
                        · skip
                          first | (have t280 : ¬ (r17.toInt = (106)) := (not_congr (i_eq rfl (show (106 : Int32).toInt = 106 from rfl))).mp c265) | (have t280 : ¬ (r17.toInt = (106 : Int32).toInt) := (not_congr (i_eq rfl rfl)).mp c265) | skip
                          refine s_X12_fault w_I4 v0 (I4 v0 26) kv0   (fun  I282 L283 w_I282 f_I282 p281 => ?_)
                          have q_I282 : FR Ws_R12 Z I Z I282 := q_I4.trans w_I.1 w_I.2.1 (f_I282.mono (by decide))
                          have u284 : (I282 v0 31).toInt = (I4 v0 31).toInt := by rw [f_I282.2.2.1 v0 12 31 kv0 (by decide) (by decide)]
                          have u285 : (I282 v0 32).toInt = (I4 v0 32).toInt := by rw [f_I282.2.2.1 v0 12 32 kv0 (by decide) (by decide)]
                          have u286 : (I282 v0 24).toInt = (I4 v0 24).toInt := by rw [f_I282.2.2.1 v0 12 24 kv0 (by decide) (by decide)]
                          have u287 : (I282 v0 25).toInt = (I4 v0 25).toInt := by rw [f_I282.2.2.1 v0 12 25 kv0 (by decide) (by decide)]
                          have u288 : (I282 v0 26).toInt = (I4 v0 26).toInt := by rw [f_I282.2.2.1 v0 12 26 kv0 (by decide) (by decide)]
                          have t289 : (0 : Int32).toInt = 0 := rfl
                          exact hQ (0 : Int32) I282 L283 w_I282 q_I282 (by omega)
          · skip
            first | (have t290 : ¬ (r165.toInt = (0)) := (not_congr (i_eq rfl (show (0 : Int32).toInt = 0 from rfl))).mp c167) | (have t290 : ¬ (r165.toInt = (0 : Int32).toInt) := (not_congr (i_eq rfl rfl)).mp c167) | skip
            have t291 : (3 : Int32).toInt = 3 := rfl
            have t292 : (0 : Int32).toInt = 0 := rfl
            have t293 : (999 : Int32).toInt = 999 := rfl
            refine s_X12_number w_I4 v0 (3 : Int32) (0 : Int32) (999 : Int32) kv0 uR huR kuR (by omega) (by omega) (fun r294 I296 L297 w_I296 f_I296 p295 => ?_)
            have q_I296 : FR Ws_R12 Z I Z I296 := q_I4.trans w_I.1 w_I.2.1 (f_I296.mono (by decide))
            have u298 : (I296 v0 31).toInt = (I4 v0 31).toInt := by rw [f_I296.2.2.1 v0 12 31 kv0 (by decide) (by decide)]
            have u299 : (I296 v0 32).toInt = (I4 v0 32).toInt := by rw [f_I296.2.2.1 v0 12 32 kv0 (by decide) (by decide)]
            have u300 : (I296 v0 24).toInt = (I4 v0 24).toInt := by rw [f_I296.2.2.1 v0 12 24 kv0 (by decide) (by decide)]
            have u301 : (I296 v0 25).toInt = (I4 v0 25).toInt := by rw [f_I296.2.2.1 v0 12 25 kv0 (by decide) (by decide)]
            have rr294 := i_rng r294
            exact hQ r294 I296 L297 w_I296 q_I296 (by omega)
        · skip
          first | (have t302 : ¬ ((4) ≤ v1.toInt) := (not_congr (i_le (show (4 : Int32).toInt = 4 from rfl) rfl)).mp c161) | (have t302 : ¬ ((4 : Int32).toInt ≤ v1.toInt) := (not_congr (i_le rfl rfl)).mp c161) | skip
          intro I303 eI303
          try (have t304 : ((I4 v0 26) + (1 : Int32)).toInt = ((I4 v0 26).toInt + (1)) := (i_add rfl (show (1 : Int32).toInt = 1 from rfl) (by omega) (by omega)))
          have w_I303 : WD Z I303 := by rw [eI303]; exact WD_putF w_I4 12 26 kv0 (by decide) (by decide) trivial
          have f_I303 : FR [(12, 26)] Z I4 Z I303 := by rw [eI303]; exact FR_putF kv0 (by decide) List.mem_cons_self
          have q_I303 : FR Ws_R12 Z I Z I303 := q_I4.trans w_I.1 w_I.2.1 (f_I303.mono (by decide))
          have u305 : (I303 v0 31).toInt = (I4 v0 31).toInt := by rw [f_I303.2.2.1 v0 12 31 kv0 (by decide) (by decide)]
          have u306 : (I303 v0 32).toInt = (I4 v0 32).toInt := by rw [f_I303.2.2.1 v0 12 32 kv0 (by decide) (by decide)]
          have u307 : (I303 v0 24).toInt = (I4 v0 24).toInt := by rw [f_I303.2.2.1 v0 12 24 kv0 (by decide) (by decide)]
          have u308 : (I303 v0 25).toInt = (I4 v0 25).toInt := by rw [f_I303.2.2.1 v0 12 25 kv0 (by decide) (by decide)]
          have u309 : (I303 v0 27).toInt = (I4 v0 27).toInt := by rw [f_I303.2.2.1 v0 12 27 kv0 (by decide) (by decide)]
          first | (have u310 : (I303 v0 26).toInt = ((I4 v0 26).toInt + (1)) := by (rw [eI303, show jpI I4 v0 26 ((I4 v0 26) + (1 : Int32)) v0 26 = ((I4 v0 26) + (1 : Int32)) from jpI_at] <;> exact (i_add rfl (show (1 : Int32).toInt = 1 from rfl) (by omega) (by omega)))) | skip
          try (have t311 : (v1 + (1 : Int32)).toInt = (v1.toInt + (1)) := (i_add rfl (show (1 : Int32).toInt = 1 from rfl) (by omega) (by omega)))
          refine hF 0 (by decide) Z I303 L5 w_I303 v0 (v1 + (1 : Int32)) kv0 uR huR kuR (by omega) (by omega) (by omega) (by omega) _ (fun r312 I314 L315 w_I314 f_I314 p316 => ?_)
          have q_I314 : FR Ws_R12 Z I Z I314 := q_I303.trans w_I.1 w_I.2.1 (f_I314.mono (by decide))
          have u317 : (I314 v0 31).toInt = (I303 v0 31).toInt := by rw [f_I314.2.2.1 v0 12 31 kv0 (by decide) (by decide)]
          have u318 : (I314 v0 32).toInt = (I303 v0 32).toInt := by rw [f_I314.2.2.1 v0 12 32 kv0 (by decide) (by decide)]
          have u319 : (I314 v0 24).toInt = (I303 v0 24).toInt := by rw [f_I314.2.2.1 v0 12 24 kv0 (by decide) (by decide)]
          have u320 : (I314 v0 25).toInt = (I303 v0 25).toInt := by rw [f_I314.2.2.1 v0 12 25 kv0 (by decide) (by decide)]
          have rr312 := i_rng r312
          have t321 : (41 : Int32).toInt = 41 := rfl
          refine s_X12_need w_I314 v0 (41 : Int32) kv0 uR huR kuR (by omega) (by omega) (fun  I323 L324 w_I323 f_I323 p322 => ?_)
          have q_I323 : FR Ws_R12 Z I Z I323 := q_I314.trans w_I.1 w_I.2.1 (f_I323.mono (by decide))
          have u325 : (I323 v0 31).toInt = (I314 v0 31).toInt := by rw [f_I323.2.2.1 v0 12 31 kv0 (by decide) (by decide)]
          have u326 : (I323 v0 32).toInt = (I314 v0 32).toInt := by rw [f_I323.2.2.1 v0 12 32 kv0 (by decide) (by decide)]
          have u327 : (I323 v0 24).toInt = (I314 v0 24).toInt := by rw [f_I323.2.2.1 v0 12 24 kv0 (by decide) (by decide)]
          have u328 : (I323 v0 25).toInt = (I314 v0 25).toInt := by rw [f_I323.2.2.1 v0 12 25 kv0 (by decide) (by decide)]
          exact hQ r312 I323 L324 w_I323 q_I323 (by omega)
    · skip
      first | (have t329 : r13.toInt = (0) := (i_eq rfl (show (0 : Int32).toInt = 0 from rfl)).mp c15) | (have t329 : r13.toInt = (0 : Int32).toInt := (i_eq rfl rfl).mp c15) | skip
      have t330 : (0 : Int32).toInt = 0 := rfl
      exact hQ (0 : Int32) I4 L5 w_I4 q_I4 (by omega)
  · skip
    first | (have t331 : ¬ (r2.toInt = (0)) := (not_congr (i_eq rfl (show (0 : Int32).toInt = 0 from rfl))).mp c11) | (have t331 : ¬ (r2.toInt = (0 : Int32).toInt) := (not_congr (i_eq rfl rfl)).mp c11) | skip
    refine hF 3 (by decide) Z I4 L5 w_I4 v0 v1 kv0 uR huR kuR (by omega) (by omega) (by omega) (by omega) _ (fun r332 I334 L335 w_I334 f_I334 p336 => ?_)
    have q_I334 : FR Ws_R12 Z I Z I334 := q_I4.trans w_I.1 w_I.2.1 (f_I334.mono (by decide))
    have u337 : (I334 v0 31).toInt = (I4 v0 31).toInt := by rw [f_I334.2.2.1 v0 12 31 kv0 (by decide) (by decide)]
    have u338 : (I334 v0 32).toInt = (I4 v0 32).toInt := by rw [f_I334.2.2.1 v0 12 32 kv0 (by decide) (by decide)]
    have u339 : (I334 v0 24).toInt = (I4 v0 24).toInt := by rw [f_I334.2.2.1 v0 12 24 kv0 (by decide) (by decide)]
    have u340 : (I334 v0 25).toInt = (I4 v0 25).toInt := by rw [f_I334.2.2.1 v0 12 25 kv0 (by decide) (by decide)]
    have rr332 := i_rng r332
    try (have t341 : (-r332).toInt = (-r332.toInt) := (i_neg rfl (by omega)))
    exact hQ (-r332) I334 L335 w_I334 q_I334 (by omega)
set_option maxHeartbeats 4000000 in
set_option maxRecDepth 100000 in
theorem l_X12_product_L6 {d : Nat} {F : FTR12} (hF : HS12 d F) {Z : jZ} {I0 : jI} {Q : Int32 → jI → jL → Prop} (w0 : WD Z I0) (v0 : Nat) (v1 : Int32) (kv0 : jk Z v0 12) (uR : Nat) (huR : jr Z v0 23 = some uR) (kuR : jk Z uR 13) (p0 : 0 ≤ (I0 v0 26).toInt ∧ (I0 v0 26).toInt ≤ (I0 v0 24).toInt ∧ (I0 v0 26).toInt ≤ (I0 v0 25).toInt ∧ (I0 v0 24).toInt ≤ (jlen Z uR : Int) ∧ jlen Z uR ≤ 80) (p1 : ((I0 v0 31).toInt = -1 ∨ (0 ≤ (I0 v0 31).toInt ∧ (I0 v0 31).toInt ≤ 23 ∧ (I0 v0 32).toInt ≤ 23))) (p2 : 0 ≤ v1.toInt ∧ v1.toInt ≤ 4) (p3 : (I0 v0 25).toInt - (I0 v0 26).toInt + 4 * (4 - v1.toInt) + 4 - 2 ≤ (d : Int) + 1) (hQ : ∀ (r : Int32) (I' : jI) (L' : jL), WD Z I' → FR Ws_R12 Z I0 Z I' → ((I0 v0 26).toInt ≤ (I' v0 26).toInt ∧ (I' v0 26).toInt ≤ (I0 v0 24).toInt ∧ (I' v0 26).toInt ≤ (I0 v0 25).toInt ∧ (¬ (I0 v0 27).toInt = -1 → ¬ (I' v0 27).toInt = -1)) → Q r I' L') : ∀ (n : Nat) (v2 : Int32) (I : jI) (L : jL), WD Z I → FR Ws_R12 Z I0 Z I →   (0 ≤ (I v0 26).toInt ∧ (I v0 26).toInt ≤ (I v0 24).toInt ∧ (I v0 26).toInt ≤ (I v0 25).toInt ∧ (I v0 24).toInt ≤ (jlen Z uR : Int) ∧ jlen Z uR ≤ 80 ∧ ((I v0 31).toInt = -1 ∨ (0 ≤ (I v0 31).toInt ∧ (I v0 31).toInt ≤ 23 ∧ (I v0 32).toInt ≤ 23)) ∧ (I0 v0 26).toInt ≤ (I v0 26).toInt ∧ (I v0 24).toInt = (I0 v0 24).toInt ∧ (I v0 25).toInt = (I0 v0 25).toInt ∧ (¬ (I0 v0 27).toInt = -1 → ¬ (I v0 27).toInt = -1)) → (I v0 25).toInt - (I v0 26).toInt < (n : Int) → f_X12_product_L6 F  Z Q n v0 v1 v2 I L := by
  intro n
  induction n with
  | zero =>
    intro v2 I L w_I q_I   li  me
    exfalso
    omega
  | succ n ih =>
    intro v2 I L w_I q_I   li  me
    unfold f_X12_product_L6
    have rv2 := i_rng v2
    have rv1 := i_rng v1
    refine s_X12_fine w_I v0 kv0   (fun r1 p2 => ?_)
    have rr1 := i_rng r1
    refine ⟨fun c3 => ?_, fun c3 => ?_⟩
    · skip
      first | (have t4 : r1.toInt = (0) := (i_eq rfl (show (0 : Int32).toInt = 0 from rfl)).mp c3) | (have t4 : r1.toInt = (0 : Int32).toInt := (i_eq rfl rfl).mp c3) | skip
      exact hQ v2 I L w_I q_I (by omega)
    · skip
      first | (have t5 : ¬ (r1.toInt = (0)) := (not_congr (i_eq rfl (show (0 : Int32).toInt = 0 from rfl))).mp c3) | (have t5 : ¬ (r1.toInt = (0 : Int32).toInt) := (not_congr (i_eq rfl rfl)).mp c3) | skip
      refine s_X12_here w_I v0 kv0 uR huR kuR (by omega) (fun r6 p7 => ?_)
      have rr6 := i_rng r6
      refine ⟨fun c8 => ?_, fun c8 => ?_⟩
      · skip
        first | (have t9 : r6.toInt = (42) := (i_eq rfl (show (42 : Int32).toInt = 42 from rfl)).mp c8) | (have t9 : r6.toInt = (42 : Int32).toInt := (i_eq rfl rfl).mp c8) | skip
        unfold f_X12_product_b31
        refine s_X12_here w_I v0 kv0 uR huR kuR (by omega) (fun r10 p11 => ?_)
        have rr10 := i_rng r10
        refine ⟨fun c12 => ?_, fun c12 => ?_⟩
        · skip
          first | (have t13 : ¬ (r10.toInt = (42)) := (not_congr (i_eq rfl (show (42 : Int32).toInt = 42 from rfl))).mp c12) | (have t13 : ¬ (r10.toInt = (42 : Int32).toInt) := (not_congr (i_eq rfl rfl)).mp c12) | skip
          unfold f_X12_product_b45
          intro I14 eI14
          try (have t15 : ((I v0 26) + (1 : Int32)).toInt = ((I v0 26).toInt + (1)) := (i_add rfl (show (1 : Int32).toInt = 1 from rfl) (by omega) (by omega)))
          have w_I14 : WD Z I14 := by rw [eI14]; exact WD_putF w_I 12 26 kv0 (by decide) (by decide) trivial
          have f_I14 : FR [(12, 26)] Z I Z I14 := by rw [eI14]; exact FR_putF kv0 (by decide) List.mem_cons_self
          have q_I14 : FR Ws_R12 Z I0 Z I14 := q_I.trans w0.1 w0.2.1 (f_I14.mono (by decide))
          have u16 : (I14 v0 31).toInt = (I v0 31).toInt := by rw [f_I14.2.2.1 v0 12 31 kv0 (by decide) (by decide)]
          have u17 : (I14 v0 32).toInt = (I v0 32).toInt := by rw [f_I14.2.2.1 v0 12 32 kv0 (by decide) (by decide)]
          have u18 : (I14 v0 24).toInt = (I v0 24).toInt := by rw [f_I14.2.2.1 v0 12 24 kv0 (by decide) (by decide)]
          have u19 : (I14 v0 25).toInt = (I v0 25).toInt := by rw [f_I14.2.2.1 v0 12 25 kv0 (by decide) (by decide)]
          have u20 : (I14 v0 27).toInt = (I v0 27).toInt := by rw [f_I14.2.2.1 v0 12 27 kv0 (by decide) (by decide)]
          first | (have u21 : (I14 v0 26).toInt = ((I v0 26).toInt + (1)) := by (rw [eI14, show jpI I v0 26 ((I v0 26) + (1 : Int32)) v0 26 = ((I v0 26) + (1 : Int32)) from jpI_at] <;> exact (i_add rfl (show (1 : Int32).toInt = 1 from rfl) (by omega) (by omega)))) | skip
          refine hF 3 (by decide) Z I14 L w_I14 v0 v1 kv0 uR huR kuR (by omega) (by omega) (by omega) (by omega) _ (fun r22 I24 L25 w_I24 f_I24 p26 => ?_)
          have q_I24 : FR Ws_R12 Z I0 Z I24 := q_I14.trans w0.1 w0.2.1 (f_I24.mono (by decide))
          have u27 : (I24 v0 31).toInt = (I14 v0 31).toInt := by rw [f_I24.2.2.1 v0 12 31 kv0 (by decide) (by decide)]
          have u28 : (I24 v0 32).toInt = (I14 v0 32).toInt := by rw [f_I24.2.2.1 v0 12 32 kv0 (by decide) (by decide)]
          have u29 : (I24 v0 24).toInt = (I14 v0 24).toInt := by rw [f_I24.2.2.1 v0 12 24 kv0 (by decide) (by decide)]
          have u30 : (I24 v0 25).toInt = (I14 v0 25).toInt := by rw [f_I24.2.2.1 v0 12 25 kv0 (by decide) (by decide)]
          have rr22 := i_rng r22
          refine ⟨fun c31 => ?_, fun c31 => ?_⟩
          · skip
            first | (have t32 : (0) = (0) := (i_eq (show (0 : Int32).toInt = 0 from rfl) (show (0 : Int32).toInt = 0 from rfl)).mp c31) | (have t32 : (0 : Int32).toInt = (0 : Int32).toInt := (i_eq rfl rfl).mp c31) | skip
            refine ⟨fun c33 => ?_, fun c33 => ?_⟩
            · skip
              first | (have t34 : ¬ (r22.toInt = (0)) := (not_congr (i_eq rfl (show (0 : Int32).toInt = 0 from rfl))).mp c33) | (have t34 : ¬ (r22.toInt = (0 : Int32).toInt) := (not_congr (i_eq rfl rfl)).mp c33) | skip
              refine ⟨(not_congr (i_eq rfl (show (0 : Int32).toInt = 0 from rfl))).mpr (by omega), ?_⟩
              unfold f_X12_product_b87
              exact ih (v2 / r22) I24 L25 w_I24 q_I24   (by omega)  (by omega)
            · skip
              first | (have t35 : r22.toInt = (0) := (i_eq rfl (show (0 : Int32).toInt = 0 from rfl)).mp c33) | (have t35 : r22.toInt = (0 : Int32).toInt := (i_eq rfl rfl).mp c33) | skip
              unfold f_X12_product_b87
              have t36 : (0 : Int32).toInt = 0 := rfl
              exact ih (0 : Int32) I24 L25 w_I24 q_I24   (by omega)  (by omega)
          · skip
            first | (have t37 : ¬ ((0) = (0)) := (not_congr (i_eq (show (0 : Int32).toInt = 0 from rfl) (show (0 : Int32).toInt = 0 from rfl))).mp c31) | (have t37 : ¬ ((0 : Int32).toInt = (0 : Int32).toInt) := (not_congr (i_eq rfl rfl)).mp c31) | skip
            unfold f_X12_product_b87
            exact ih (v2 * r22) I24 L25 w_I24 q_I24   (by omega)  (by omega)
        · skip
          first | (have t38 : r10.toInt = (42) := (i_eq rfl (show (42 : Int32).toInt = 42 from rfl)).mp c12) | (have t38 : r10.toInt = (42 : Int32).toInt := (i_eq rfl rfl).mp c12) | skip
          unfold f_X12_product_b45
          intro I39 eI39
          try (have t40 : ((I v0 26) + (1 : Int32)).toInt = ((I v0 26).toInt + (1)) := (i_add rfl (show (1 : Int32).toInt = 1 from rfl) (by omega) (by omega)))
          have w_I39 : WD Z I39 := by rw [eI39]; exact WD_putF w_I 12 26 kv0 (by decide) (by decide) trivial
          have f_I39 : FR [(12, 26)] Z I Z I39 := by rw [eI39]; exact FR_putF kv0 (by decide) List.mem_cons_self
          have q_I39 : FR Ws_R12 Z I0 Z I39 := q_I.trans w0.1 w0.2.1 (f_I39.mono (by decide))
          have u41 : (I39 v0 31).toInt = (I v0 31).toInt := by rw [f_I39.2.2.1 v0 12 31 kv0 (by decide) (by decide)]
          have u42 : (I39 v0 32).toInt = (I v0 32).toInt := by rw [f_I39.2.2.1 v0 12 32 kv0 (by decide) (by decide)]
          have u43 : (I39 v0 24).toInt = (I v0 24).toInt := by rw [f_I39.2.2.1 v0 12 24 kv0 (by decide) (by decide)]
          have u44 : (I39 v0 25).toInt = (I v0 25).toInt := by rw [f_I39.2.2.1 v0 12 25 kv0 (by decide) (by decide)]
          have u45 : (I39 v0 27).toInt = (I v0 27).toInt := by rw [f_I39.2.2.1 v0 12 27 kv0 (by decide) (by decide)]
          first | (have u46 : (I39 v0 26).toInt = ((I v0 26).toInt + (1)) := by (rw [eI39, show jpI I v0 26 ((I v0 26) + (1 : Int32)) v0 26 = ((I v0 26) + (1 : Int32)) from jpI_at] <;> exact (i_add rfl (show (1 : Int32).toInt = 1 from rfl) (by omega) (by omega)))) | skip
          refine hF 3 (by decide) Z I39 L w_I39 v0 v1 kv0 uR huR kuR (by omega) (by omega) (by omega) (by omega) _ (fun r47 I49 L50 w_I49 f_I49 p51 => ?_)
          have q_I49 : FR Ws_R12 Z I0 Z I49 := q_I39.trans w0.1 w0.2.1 (f_I49.mono (by decide))
          have u52 : (I49 v0 31).toInt = (I39 v0 31).toInt := by rw [f_I49.2.2.1 v0 12 31 kv0 (by decide) (by decide)]
          have u53 : (I49 v0 32).toInt = (I39 v0 32).toInt := by rw [f_I49.2.2.1 v0 12 32 kv0 (by decide) (by decide)]
          have u54 : (I49 v0 24).toInt = (I39 v0 24).toInt := by rw [f_I49.2.2.1 v0 12 24 kv0 (by decide) (by decide)]
          have u55 : (I49 v0 25).toInt = (I39 v0 25).toInt := by rw [f_I49.2.2.1 v0 12 25 kv0 (by decide) (by decide)]
          have rr47 := i_rng r47
          refine ⟨fun c56 => ?_, fun c56 => ?_⟩
          · skip
            first | (have t57 : (1) = (0) := (i_eq (show (1 : Int32).toInt = 1 from rfl) (show (0 : Int32).toInt = 0 from rfl)).mp c56) | (have t57 : (1 : Int32).toInt = (0 : Int32).toInt := (i_eq rfl rfl).mp c56) | skip
            refine ⟨fun c58 => ?_, fun c58 => ?_⟩
            · skip
              first | (have t59 : ¬ (r47.toInt = (0)) := (not_congr (i_eq rfl (show (0 : Int32).toInt = 0 from rfl))).mp c58) | (have t59 : ¬ (r47.toInt = (0 : Int32).toInt) := (not_congr (i_eq rfl rfl)).mp c58) | skip
              refine ⟨(not_congr (i_eq rfl (show (0 : Int32).toInt = 0 from rfl))).mpr (by omega), ?_⟩
              unfold f_X12_product_b87
              exact ih (v2 / r47) I49 L50 w_I49 q_I49   (by omega)  (by omega)
            · skip
              first | (have t60 : r47.toInt = (0) := (i_eq rfl (show (0 : Int32).toInt = 0 from rfl)).mp c58) | (have t60 : r47.toInt = (0 : Int32).toInt := (i_eq rfl rfl).mp c58) | skip
              unfold f_X12_product_b87
              have t61 : (0 : Int32).toInt = 0 := rfl
              exact ih (0 : Int32) I49 L50 w_I49 q_I49   (by omega)  (by omega)
          · skip
            first | (have t62 : ¬ ((1) = (0)) := (not_congr (i_eq (show (1 : Int32).toInt = 1 from rfl) (show (0 : Int32).toInt = 0 from rfl))).mp c56) | (have t62 : ¬ ((1 : Int32).toInt = (0 : Int32).toInt) := (not_congr (i_eq rfl rfl)).mp c56) | skip
            unfold f_X12_product_b87
            exact ih (v2 * r47) I49 L50 w_I49 q_I49   (by omega)  (by omega)
      · skip
        first | (have t63 : ¬ (r6.toInt = (42)) := (not_congr (i_eq rfl (show (42 : Int32).toInt = 42 from rfl))).mp c8) | (have t63 : ¬ (r6.toInt = (42 : Int32).toInt) := (not_congr (i_eq rfl rfl)).mp c8) | skip
        refine s_X12_here w_I v0 kv0 uR huR kuR (by omega) (fun r64 p65 => ?_)
        have rr64 := i_rng r64
        refine ⟨fun c66 => ?_, fun c66 => ?_⟩
        · skip
          first | (have t67 : ¬ (r64.toInt = (47)) := (not_congr (i_eq rfl (show (47 : Int32).toInt = 47 from rfl))).mp c66) | (have t67 : ¬ (r64.toInt = (47 : Int32).toInt) := (not_congr (i_eq rfl rfl)).mp c66) | skip
          exact hQ v2 I L w_I q_I (by omega)
        · skip
          first | (have t68 : r64.toInt = (47) := (i_eq rfl (show (47 : Int32).toInt = 47 from rfl)).mp c66) | (have t68 : r64.toInt = (47 : Int32).toInt := (i_eq rfl rfl).mp c66) | skip
          unfold f_X12_product_b31
          refine s_X12_here w_I v0 kv0 uR huR kuR (by omega) (fun r69 p70 => ?_)
          have rr69 := i_rng r69
          refine ⟨fun c71 => ?_, fun c71 => ?_⟩
          · skip
            first | (have t72 : ¬ (r69.toInt = (42)) := (not_congr (i_eq rfl (show (42 : Int32).toInt = 42 from rfl))).mp c71) | (have t72 : ¬ (r69.toInt = (42 : Int32).toInt) := (not_congr (i_eq rfl rfl)).mp c71) | skip
            unfold f_X12_product_b45
            intro I73 eI73
            try (have t74 : ((I v0 26) + (1 : Int32)).toInt = ((I v0 26).toInt + (1)) := (i_add rfl (show (1 : Int32).toInt = 1 from rfl) (by omega) (by omega)))
            have w_I73 : WD Z I73 := by rw [eI73]; exact WD_putF w_I 12 26 kv0 (by decide) (by decide) trivial
            have f_I73 : FR [(12, 26)] Z I Z I73 := by rw [eI73]; exact FR_putF kv0 (by decide) List.mem_cons_self
            have q_I73 : FR Ws_R12 Z I0 Z I73 := q_I.trans w0.1 w0.2.1 (f_I73.mono (by decide))
            have u75 : (I73 v0 31).toInt = (I v0 31).toInt := by rw [f_I73.2.2.1 v0 12 31 kv0 (by decide) (by decide)]
            have u76 : (I73 v0 32).toInt = (I v0 32).toInt := by rw [f_I73.2.2.1 v0 12 32 kv0 (by decide) (by decide)]
            have u77 : (I73 v0 24).toInt = (I v0 24).toInt := by rw [f_I73.2.2.1 v0 12 24 kv0 (by decide) (by decide)]
            have u78 : (I73 v0 25).toInt = (I v0 25).toInt := by rw [f_I73.2.2.1 v0 12 25 kv0 (by decide) (by decide)]
            have u79 : (I73 v0 27).toInt = (I v0 27).toInt := by rw [f_I73.2.2.1 v0 12 27 kv0 (by decide) (by decide)]
            first | (have u80 : (I73 v0 26).toInt = ((I v0 26).toInt + (1)) := by (rw [eI73, show jpI I v0 26 ((I v0 26) + (1 : Int32)) v0 26 = ((I v0 26) + (1 : Int32)) from jpI_at] <;> exact (i_add rfl (show (1 : Int32).toInt = 1 from rfl) (by omega) (by omega)))) | skip
            refine hF 3 (by decide) Z I73 L w_I73 v0 v1 kv0 uR huR kuR (by omega) (by omega) (by omega) (by omega) _ (fun r81 I83 L84 w_I83 f_I83 p85 => ?_)
            have q_I83 : FR Ws_R12 Z I0 Z I83 := q_I73.trans w0.1 w0.2.1 (f_I83.mono (by decide))
            have u86 : (I83 v0 31).toInt = (I73 v0 31).toInt := by rw [f_I83.2.2.1 v0 12 31 kv0 (by decide) (by decide)]
            have u87 : (I83 v0 32).toInt = (I73 v0 32).toInt := by rw [f_I83.2.2.1 v0 12 32 kv0 (by decide) (by decide)]
            have u88 : (I83 v0 24).toInt = (I73 v0 24).toInt := by rw [f_I83.2.2.1 v0 12 24 kv0 (by decide) (by decide)]
            have u89 : (I83 v0 25).toInt = (I73 v0 25).toInt := by rw [f_I83.2.2.1 v0 12 25 kv0 (by decide) (by decide)]
            have rr81 := i_rng r81
            refine ⟨fun c90 => ?_, fun c90 => ?_⟩
            · skip
              first | (have t91 : (0) = (0) := (i_eq (show (0 : Int32).toInt = 0 from rfl) (show (0 : Int32).toInt = 0 from rfl)).mp c90) | (have t91 : (0 : Int32).toInt = (0 : Int32).toInt := (i_eq rfl rfl).mp c90) | skip
              refine ⟨fun c92 => ?_, fun c92 => ?_⟩
              · skip
                first | (have t93 : ¬ (r81.toInt = (0)) := (not_congr (i_eq rfl (show (0 : Int32).toInt = 0 from rfl))).mp c92) | (have t93 : ¬ (r81.toInt = (0 : Int32).toInt) := (not_congr (i_eq rfl rfl)).mp c92) | skip
                refine ⟨(not_congr (i_eq rfl (show (0 : Int32).toInt = 0 from rfl))).mpr (by omega), ?_⟩
                unfold f_X12_product_b87
                exact ih (v2 / r81) I83 L84 w_I83 q_I83   (by omega)  (by omega)
              · skip
                first | (have t94 : r81.toInt = (0) := (i_eq rfl (show (0 : Int32).toInt = 0 from rfl)).mp c92) | (have t94 : r81.toInt = (0 : Int32).toInt := (i_eq rfl rfl).mp c92) | skip
                unfold f_X12_product_b87
                have t95 : (0 : Int32).toInt = 0 := rfl
                exact ih (0 : Int32) I83 L84 w_I83 q_I83   (by omega)  (by omega)
            · skip
              first | (have t96 : ¬ ((0) = (0)) := (not_congr (i_eq (show (0 : Int32).toInt = 0 from rfl) (show (0 : Int32).toInt = 0 from rfl))).mp c90) | (have t96 : ¬ ((0 : Int32).toInt = (0 : Int32).toInt) := (not_congr (i_eq rfl rfl)).mp c90) | skip
              unfold f_X12_product_b87
              exact ih (v2 * r81) I83 L84 w_I83 q_I83   (by omega)  (by omega)
          · skip
            first | (have t97 : r69.toInt = (42) := (i_eq rfl (show (42 : Int32).toInt = 42 from rfl)).mp c71) | (have t97 : r69.toInt = (42 : Int32).toInt := (i_eq rfl rfl).mp c71) | skip
            unfold f_X12_product_b45
            intro I98 eI98
            try (have t99 : ((I v0 26) + (1 : Int32)).toInt = ((I v0 26).toInt + (1)) := (i_add rfl (show (1 : Int32).toInt = 1 from rfl) (by omega) (by omega)))
            have w_I98 : WD Z I98 := by rw [eI98]; exact WD_putF w_I 12 26 kv0 (by decide) (by decide) trivial
            have f_I98 : FR [(12, 26)] Z I Z I98 := by rw [eI98]; exact FR_putF kv0 (by decide) List.mem_cons_self
            have q_I98 : FR Ws_R12 Z I0 Z I98 := q_I.trans w0.1 w0.2.1 (f_I98.mono (by decide))
            have u100 : (I98 v0 31).toInt = (I v0 31).toInt := by rw [f_I98.2.2.1 v0 12 31 kv0 (by decide) (by decide)]
            have u101 : (I98 v0 32).toInt = (I v0 32).toInt := by rw [f_I98.2.2.1 v0 12 32 kv0 (by decide) (by decide)]
            have u102 : (I98 v0 24).toInt = (I v0 24).toInt := by rw [f_I98.2.2.1 v0 12 24 kv0 (by decide) (by decide)]
            have u103 : (I98 v0 25).toInt = (I v0 25).toInt := by rw [f_I98.2.2.1 v0 12 25 kv0 (by decide) (by decide)]
            have u104 : (I98 v0 27).toInt = (I v0 27).toInt := by rw [f_I98.2.2.1 v0 12 27 kv0 (by decide) (by decide)]
            first | (have u105 : (I98 v0 26).toInt = ((I v0 26).toInt + (1)) := by (rw [eI98, show jpI I v0 26 ((I v0 26) + (1 : Int32)) v0 26 = ((I v0 26) + (1 : Int32)) from jpI_at] <;> exact (i_add rfl (show (1 : Int32).toInt = 1 from rfl) (by omega) (by omega)))) | skip
            refine hF 3 (by decide) Z I98 L w_I98 v0 v1 kv0 uR huR kuR (by omega) (by omega) (by omega) (by omega) _ (fun r106 I108 L109 w_I108 f_I108 p110 => ?_)
            have q_I108 : FR Ws_R12 Z I0 Z I108 := q_I98.trans w0.1 w0.2.1 (f_I108.mono (by decide))
            have u111 : (I108 v0 31).toInt = (I98 v0 31).toInt := by rw [f_I108.2.2.1 v0 12 31 kv0 (by decide) (by decide)]
            have u112 : (I108 v0 32).toInt = (I98 v0 32).toInt := by rw [f_I108.2.2.1 v0 12 32 kv0 (by decide) (by decide)]
            have u113 : (I108 v0 24).toInt = (I98 v0 24).toInt := by rw [f_I108.2.2.1 v0 12 24 kv0 (by decide) (by decide)]
            have u114 : (I108 v0 25).toInt = (I98 v0 25).toInt := by rw [f_I108.2.2.1 v0 12 25 kv0 (by decide) (by decide)]
            have rr106 := i_rng r106
            refine ⟨fun c115 => ?_, fun c115 => ?_⟩
            · skip
              first | (have t116 : (1) = (0) := (i_eq (show (1 : Int32).toInt = 1 from rfl) (show (0 : Int32).toInt = 0 from rfl)).mp c115) | (have t116 : (1 : Int32).toInt = (0 : Int32).toInt := (i_eq rfl rfl).mp c115) | skip
              refine ⟨fun c117 => ?_, fun c117 => ?_⟩
              · skip
                first | (have t118 : ¬ (r106.toInt = (0)) := (not_congr (i_eq rfl (show (0 : Int32).toInt = 0 from rfl))).mp c117) | (have t118 : ¬ (r106.toInt = (0 : Int32).toInt) := (not_congr (i_eq rfl rfl)).mp c117) | skip
                refine ⟨(not_congr (i_eq rfl (show (0 : Int32).toInt = 0 from rfl))).mpr (by omega), ?_⟩
                unfold f_X12_product_b87
                exact ih (v2 / r106) I108 L109 w_I108 q_I108   (by omega)  (by omega)
              · skip
                first | (have t119 : r106.toInt = (0) := (i_eq rfl (show (0 : Int32).toInt = 0 from rfl)).mp c117) | (have t119 : r106.toInt = (0 : Int32).toInt := (i_eq rfl rfl).mp c117) | skip
                unfold f_X12_product_b87
                have t120 : (0 : Int32).toInt = 0 := rfl
                exact ih (0 : Int32) I108 L109 w_I108 q_I108   (by omega)  (by omega)
            · skip
              first | (have t121 : ¬ ((1) = (0)) := (not_congr (i_eq (show (1 : Int32).toInt = 1 from rfl) (show (0 : Int32).toInt = 0 from rfl))).mp c115) | (have t121 : ¬ ((1 : Int32).toInt = (0 : Int32).toInt) := (not_congr (i_eq rfl rfl)).mp c115) | skip
              unfold f_X12_product_b87
              exact ih (v2 * r106) I108 L109 w_I108 q_I108   (by omega)  (by omega)
set_option maxHeartbeats 4000000 in
set_option maxRecDepth 100000 in
theorem s_X12_product {d : Nat} {F : FTR12} (hF : HS12 d F) {Z : jZ} {I : jI} {L : jL} (w_I : WD Z I) (v0 : Nat) (v1 : Int32) (kv0 : jk Z v0 12) (uR : Nat) (huR : jr Z v0 23 = some uR) (kuR : jk Z uR 13) (p0 : 0 ≤ (I v0 26).toInt ∧ (I v0 26).toInt ≤ (I v0 24).toInt ∧ (I v0 26).toInt ≤ (I v0 25).toInt ∧ (I v0 24).toInt ≤ (jlen Z uR : Int) ∧ jlen Z uR ≤ 80) (p1 : ((I v0 31).toInt = -1 ∨ (0 ≤ (I v0 31).toInt ∧ (I v0 31).toInt ≤ 23 ∧ (I v0 32).toInt ≤ 23))) (p2 : 0 ≤ v1.toInt ∧ v1.toInt ≤ 4) (p3 : (I v0 25).toInt - (I v0 26).toInt + 4 * (4 - v1.toInt) + 4 - 2 ≤ (d : Int) + 1) {Q : Int32 → jI → jL → Prop} (hQ : ∀ (r : Int32) (I' : jI) (L' : jL), WD Z I' → FR Ws_R12 Z I Z I' → ((I v0 26).toInt ≤ (I' v0 26).toInt ∧ (I' v0 26).toInt ≤ (I v0 24).toInt ∧ (I' v0 26).toInt ≤ (I v0 25).toInt ∧ (¬ (I v0 27).toInt = -1 → ¬ (I' v0 27).toInt = -1)) → Q r I' L') : f_X12_product F v0 v1 Z I L Q := by
  unfold f_X12_product
  have q_I : FR Ws_R12 Z I Z I := FR.rf
  have rv1 := i_rng v1
  refine hF 3 (by decide) Z I L w_I v0 v1 kv0 uR huR kuR (by omega) (by omega) (by omega) (by omega) _ (fun r122 I124 L125 w_I124 f_I124 p126 => ?_)
  have q_I124 : FR Ws_R12 Z I Z I124 := q_I.trans w_I.1 w_I.2.1 (f_I124.mono (by decide))
  have u127 : (I124 v0 31).toInt = (I v0 31).toInt := by rw [f_I124.2.2.1 v0 12 31 kv0 (by decide) (by decide)]
  have u128 : (I124 v0 32).toInt = (I v0 32).toInt := by rw [f_I124.2.2.1 v0 12 32 kv0 (by decide) (by decide)]
  have u129 : (I124 v0 24).toInt = (I v0 24).toInt := by rw [f_I124.2.2.1 v0 12 24 kv0 (by decide) (by decide)]
  have u130 : (I124 v0 25).toInt = (I v0 25).toInt := by rw [f_I124.2.2.1 v0 12 25 kv0 (by decide) (by decide)]
  have rr122 := i_rng r122
  exact ⟨((I124 v0 25).toInt - (I124 v0 26).toInt).toNat + 1, l_X12_product_L6 hF w_I v0 v1 kv0 uR huR kuR p0 p1 p2 p3   hQ   _ r122 I124 L125 w_I124 q_I124   (by omega)  (by omega)⟩
set_option maxHeartbeats 4000000 in
set_option maxRecDepth 100000 in
theorem l_X12_sum_L6 {d : Nat} {F : FTR12} (hF : HS12 d F) {Z : jZ} {I0 : jI} {Q : Int32 → jI → jL → Prop} (w0 : WD Z I0) (v0 : Nat) (v1 : Int32) (kv0 : jk Z v0 12) (uR : Nat) (huR : jr Z v0 23 = some uR) (kuR : jk Z uR 13) (p0 : 0 ≤ (I0 v0 26).toInt ∧ (I0 v0 26).toInt ≤ (I0 v0 24).toInt ∧ (I0 v0 26).toInt ≤ (I0 v0 25).toInt ∧ (I0 v0 24).toInt ≤ (jlen Z uR : Int) ∧ jlen Z uR ≤ 80) (p1 : ((I0 v0 31).toInt = -1 ∨ (0 ≤ (I0 v0 31).toInt ∧ (I0 v0 31).toInt ≤ 23 ∧ (I0 v0 32).toInt ≤ 23))) (p2 : 0 ≤ v1.toInt ∧ v1.toInt ≤ 4) (p3 : (I0 v0 25).toInt - (I0 v0 26).toInt + 4 * (4 - v1.toInt) + 4 - 1 ≤ (d : Int) + 1) (hQ : ∀ (r : Int32) (I' : jI) (L' : jL), WD Z I' → FR Ws_R12 Z I0 Z I' → ((I0 v0 26).toInt ≤ (I' v0 26).toInt ∧ (I' v0 26).toInt ≤ (I0 v0 24).toInt ∧ (I' v0 26).toInt ≤ (I0 v0 25).toInt ∧ (¬ (I0 v0 27).toInt = -1 → ¬ (I' v0 27).toInt = -1)) → Q r I' L') : ∀ (n : Nat) (v2 : Int32) (I : jI) (L : jL), WD Z I → FR Ws_R12 Z I0 Z I →   (0 ≤ (I v0 26).toInt ∧ (I v0 26).toInt ≤ (I v0 24).toInt ∧ (I v0 26).toInt ≤ (I v0 25).toInt ∧ (I v0 24).toInt ≤ (jlen Z uR : Int) ∧ jlen Z uR ≤ 80 ∧ ((I v0 31).toInt = -1 ∨ (0 ≤ (I v0 31).toInt ∧ (I v0 31).toInt ≤ 23 ∧ (I v0 32).toInt ≤ 23)) ∧ (I0 v0 26).toInt ≤ (I v0 26).toInt ∧ (I v0 24).toInt = (I0 v0 24).toInt ∧ (I v0 25).toInt = (I0 v0 25).toInt ∧ (¬ (I0 v0 27).toInt = -1 → ¬ (I v0 27).toInt = -1)) → (I v0 25).toInt - (I v0 26).toInt < (n : Int) → f_X12_sum_L6 F  Z Q n v0 v1 v2 I L := by
  intro n
  induction n with
  | zero =>
    intro v2 I L w_I q_I   li  me
    exfalso
    omega
  | succ n ih =>
    intro v2 I L w_I q_I   li  me
    unfold f_X12_sum_L6
    have rv2 := i_rng v2
    have rv1 := i_rng v1
    refine s_X12_fine w_I v0 kv0   (fun r1 p2 => ?_)
    have rr1 := i_rng r1
    refine ⟨fun c3 => ?_, fun c3 => ?_⟩
    · skip
      first | (have t4 : r1.toInt = (0) := (i_eq rfl (show (0 : Int32).toInt = 0 from rfl)).mp c3) | (have t4 : r1.toInt = (0 : Int32).toInt := (i_eq rfl rfl).mp c3) | skip
      exact hQ v2 I L w_I q_I (by omega)
    · skip
      first | (have t5 : ¬ (r1.toInt = (0)) := (not_congr (i_eq rfl (show (0 : Int32).toInt = 0 from rfl))).mp c3) | (have t5 : ¬ (r1.toInt = (0 : Int32).toInt) := (not_congr (i_eq rfl rfl)).mp c3) | skip
      refine s_X12_here w_I v0 kv0 uR huR kuR (by omega) (fun r6 p7 => ?_)
      have rr6 := i_rng r6
      refine ⟨fun c8 => ?_, fun c8 => ?_⟩
      · skip
        first | (have t9 : r6.toInt = (43) := (i_eq rfl (show (43 : Int32).toInt = 43 from rfl)).mp c8) | (have t9 : r6.toInt = (43 : Int32).toInt := (i_eq rfl rfl).mp c8) | skip
        unfold f_X12_sum_b31
        refine s_X12_here w_I v0 kv0 uR huR kuR (by omega) (fun r10 p11 => ?_)
        have rr10 := i_rng r10
        refine ⟨fun c12 => ?_, fun c12 => ?_⟩
        · skip
          first | (have t13 : ¬ (r10.toInt = (43)) := (not_congr (i_eq rfl (show (43 : Int32).toInt = 43 from rfl))).mp c12) | (have t13 : ¬ (r10.toInt = (43 : Int32).toInt) := (not_congr (i_eq rfl rfl)).mp c12) | skip
          unfold f_X12_sum_b45
          intro I14 eI14
          try (have t15 : ((I v0 26) + (1 : Int32)).toInt = ((I v0 26).toInt + (1)) := (i_add rfl (show (1 : Int32).toInt = 1 from rfl) (by omega) (by omega)))
          have w_I14 : WD Z I14 := by rw [eI14]; exact WD_putF w_I 12 26 kv0 (by decide) (by decide) trivial
          have f_I14 : FR [(12, 26)] Z I Z I14 := by rw [eI14]; exact FR_putF kv0 (by decide) List.mem_cons_self
          have q_I14 : FR Ws_R12 Z I0 Z I14 := q_I.trans w0.1 w0.2.1 (f_I14.mono (by decide))
          have u16 : (I14 v0 31).toInt = (I v0 31).toInt := by rw [f_I14.2.2.1 v0 12 31 kv0 (by decide) (by decide)]
          have u17 : (I14 v0 32).toInt = (I v0 32).toInt := by rw [f_I14.2.2.1 v0 12 32 kv0 (by decide) (by decide)]
          have u18 : (I14 v0 24).toInt = (I v0 24).toInt := by rw [f_I14.2.2.1 v0 12 24 kv0 (by decide) (by decide)]
          have u19 : (I14 v0 25).toInt = (I v0 25).toInt := by rw [f_I14.2.2.1 v0 12 25 kv0 (by decide) (by decide)]
          have u20 : (I14 v0 27).toInt = (I v0 27).toInt := by rw [f_I14.2.2.1 v0 12 27 kv0 (by decide) (by decide)]
          first | (have u21 : (I14 v0 26).toInt = ((I v0 26).toInt + (1)) := by (rw [eI14, show jpI I v0 26 ((I v0 26) + (1 : Int32)) v0 26 = ((I v0 26) + (1 : Int32)) from jpI_at] <;> exact (i_add rfl (show (1 : Int32).toInt = 1 from rfl) (by omega) (by omega)))) | skip
          refine hF 2 (by decide) Z I14 L w_I14 v0 v1 kv0 uR huR kuR (by omega) (by omega) (by omega) (by omega) _ (fun r22 I24 L25 w_I24 f_I24 p26 => ?_)
          have q_I24 : FR Ws_R12 Z I0 Z I24 := q_I14.trans w0.1 w0.2.1 (f_I24.mono (by decide))
          have u27 : (I24 v0 31).toInt = (I14 v0 31).toInt := by rw [f_I24.2.2.1 v0 12 31 kv0 (by decide) (by decide)]
          have u28 : (I24 v0 32).toInt = (I14 v0 32).toInt := by rw [f_I24.2.2.1 v0 12 32 kv0 (by decide) (by decide)]
          have u29 : (I24 v0 24).toInt = (I14 v0 24).toInt := by rw [f_I24.2.2.1 v0 12 24 kv0 (by decide) (by decide)]
          have u30 : (I24 v0 25).toInt = (I14 v0 25).toInt := by rw [f_I24.2.2.1 v0 12 25 kv0 (by decide) (by decide)]
          have rr22 := i_rng r22
          refine ⟨fun c31 => ?_, fun c31 => ?_⟩
          · skip
            first | (have t32 : (0) = (0) := (i_eq (show (0 : Int32).toInt = 0 from rfl) (show (0 : Int32).toInt = 0 from rfl)).mp c31) | (have t32 : (0 : Int32).toInt = (0 : Int32).toInt := (i_eq rfl rfl).mp c31) | skip
            unfold f_X12_sum_b78
            try (have t33 : (v2 - r22).toInt = (v2.toInt - r22.toInt) := (i_sub rfl rfl (by omega) (by omega)))
            exact ih (v2 - r22) I24 L25 w_I24 q_I24   (by omega)  (by omega)
          · skip
            first | (have t34 : ¬ ((0) = (0)) := (not_congr (i_eq (show (0 : Int32).toInt = 0 from rfl) (show (0 : Int32).toInt = 0 from rfl))).mp c31) | (have t34 : ¬ ((0 : Int32).toInt = (0 : Int32).toInt) := (not_congr (i_eq rfl rfl)).mp c31) | skip
            unfold f_X12_sum_b78
            try (have t35 : (v2 + r22).toInt = (v2.toInt + r22.toInt) := (i_add rfl rfl (by omega) (by omega)))
            exact ih (v2 + r22) I24 L25 w_I24 q_I24   (by omega)  (by omega)
        · skip
          first | (have t36 : r10.toInt = (43) := (i_eq rfl (show (43 : Int32).toInt = 43 from rfl)).mp c12) | (have t36 : r10.toInt = (43 : Int32).toInt := (i_eq rfl rfl).mp c12) | skip
          unfold f_X12_sum_b45
          intro I37 eI37
          try (have t38 : ((I v0 26) + (1 : Int32)).toInt = ((I v0 26).toInt + (1)) := (i_add rfl (show (1 : Int32).toInt = 1 from rfl) (by omega) (by omega)))
          have w_I37 : WD Z I37 := by rw [eI37]; exact WD_putF w_I 12 26 kv0 (by decide) (by decide) trivial
          have f_I37 : FR [(12, 26)] Z I Z I37 := by rw [eI37]; exact FR_putF kv0 (by decide) List.mem_cons_self
          have q_I37 : FR Ws_R12 Z I0 Z I37 := q_I.trans w0.1 w0.2.1 (f_I37.mono (by decide))
          have u39 : (I37 v0 31).toInt = (I v0 31).toInt := by rw [f_I37.2.2.1 v0 12 31 kv0 (by decide) (by decide)]
          have u40 : (I37 v0 32).toInt = (I v0 32).toInt := by rw [f_I37.2.2.1 v0 12 32 kv0 (by decide) (by decide)]
          have u41 : (I37 v0 24).toInt = (I v0 24).toInt := by rw [f_I37.2.2.1 v0 12 24 kv0 (by decide) (by decide)]
          have u42 : (I37 v0 25).toInt = (I v0 25).toInt := by rw [f_I37.2.2.1 v0 12 25 kv0 (by decide) (by decide)]
          have u43 : (I37 v0 27).toInt = (I v0 27).toInt := by rw [f_I37.2.2.1 v0 12 27 kv0 (by decide) (by decide)]
          first | (have u44 : (I37 v0 26).toInt = ((I v0 26).toInt + (1)) := by (rw [eI37, show jpI I v0 26 ((I v0 26) + (1 : Int32)) v0 26 = ((I v0 26) + (1 : Int32)) from jpI_at] <;> exact (i_add rfl (show (1 : Int32).toInt = 1 from rfl) (by omega) (by omega)))) | skip
          refine hF 2 (by decide) Z I37 L w_I37 v0 v1 kv0 uR huR kuR (by omega) (by omega) (by omega) (by omega) _ (fun r45 I47 L48 w_I47 f_I47 p49 => ?_)
          have q_I47 : FR Ws_R12 Z I0 Z I47 := q_I37.trans w0.1 w0.2.1 (f_I47.mono (by decide))
          have u50 : (I47 v0 31).toInt = (I37 v0 31).toInt := by rw [f_I47.2.2.1 v0 12 31 kv0 (by decide) (by decide)]
          have u51 : (I47 v0 32).toInt = (I37 v0 32).toInt := by rw [f_I47.2.2.1 v0 12 32 kv0 (by decide) (by decide)]
          have u52 : (I47 v0 24).toInt = (I37 v0 24).toInt := by rw [f_I47.2.2.1 v0 12 24 kv0 (by decide) (by decide)]
          have u53 : (I47 v0 25).toInt = (I37 v0 25).toInt := by rw [f_I47.2.2.1 v0 12 25 kv0 (by decide) (by decide)]
          have rr45 := i_rng r45
          refine ⟨fun c54 => ?_, fun c54 => ?_⟩
          · skip
            first | (have t55 : (1) = (0) := (i_eq (show (1 : Int32).toInt = 1 from rfl) (show (0 : Int32).toInt = 0 from rfl)).mp c54) | (have t55 : (1 : Int32).toInt = (0 : Int32).toInt := (i_eq rfl rfl).mp c54) | skip
            unfold f_X12_sum_b78
            try (have t56 : (v2 - r45).toInt = (v2.toInt - r45.toInt) := (i_sub rfl rfl (by omega) (by omega)))
            exact ih (v2 - r45) I47 L48 w_I47 q_I47   (by omega)  (by omega)
          · skip
            first | (have t57 : ¬ ((1) = (0)) := (not_congr (i_eq (show (1 : Int32).toInt = 1 from rfl) (show (0 : Int32).toInt = 0 from rfl))).mp c54) | (have t57 : ¬ ((1 : Int32).toInt = (0 : Int32).toInt) := (not_congr (i_eq rfl rfl)).mp c54) | skip
            unfold f_X12_sum_b78
            try (have t58 : (v2 + r45).toInt = (v2.toInt + r45.toInt) := (i_add rfl rfl (by omega) (by omega)))
            exact ih (v2 + r45) I47 L48 w_I47 q_I47   (by omega)  (by omega)
      · skip
        first | (have t59 : ¬ (r6.toInt = (43)) := (not_congr (i_eq rfl (show (43 : Int32).toInt = 43 from rfl))).mp c8) | (have t59 : ¬ (r6.toInt = (43 : Int32).toInt) := (not_congr (i_eq rfl rfl)).mp c8) | skip
        refine s_X12_here w_I v0 kv0 uR huR kuR (by omega) (fun r60 p61 => ?_)
        have rr60 := i_rng r60
        refine ⟨fun c62 => ?_, fun c62 => ?_⟩
        · skip
          first | (have t63 : ¬ (r60.toInt = (45)) := (not_congr (i_eq rfl (show (45 : Int32).toInt = 45 from rfl))).mp c62) | (have t63 : ¬ (r60.toInt = (45 : Int32).toInt) := (not_congr (i_eq rfl rfl)).mp c62) | skip
          exact hQ v2 I L w_I q_I (by omega)
        · skip
          first | (have t64 : r60.toInt = (45) := (i_eq rfl (show (45 : Int32).toInt = 45 from rfl)).mp c62) | (have t64 : r60.toInt = (45 : Int32).toInt := (i_eq rfl rfl).mp c62) | skip
          unfold f_X12_sum_b31
          refine s_X12_here w_I v0 kv0 uR huR kuR (by omega) (fun r65 p66 => ?_)
          have rr65 := i_rng r65
          refine ⟨fun c67 => ?_, fun c67 => ?_⟩
          · skip
            first | (have t68 : ¬ (r65.toInt = (43)) := (not_congr (i_eq rfl (show (43 : Int32).toInt = 43 from rfl))).mp c67) | (have t68 : ¬ (r65.toInt = (43 : Int32).toInt) := (not_congr (i_eq rfl rfl)).mp c67) | skip
            unfold f_X12_sum_b45
            intro I69 eI69
            try (have t70 : ((I v0 26) + (1 : Int32)).toInt = ((I v0 26).toInt + (1)) := (i_add rfl (show (1 : Int32).toInt = 1 from rfl) (by omega) (by omega)))
            have w_I69 : WD Z I69 := by rw [eI69]; exact WD_putF w_I 12 26 kv0 (by decide) (by decide) trivial
            have f_I69 : FR [(12, 26)] Z I Z I69 := by rw [eI69]; exact FR_putF kv0 (by decide) List.mem_cons_self
            have q_I69 : FR Ws_R12 Z I0 Z I69 := q_I.trans w0.1 w0.2.1 (f_I69.mono (by decide))
            have u71 : (I69 v0 31).toInt = (I v0 31).toInt := by rw [f_I69.2.2.1 v0 12 31 kv0 (by decide) (by decide)]
            have u72 : (I69 v0 32).toInt = (I v0 32).toInt := by rw [f_I69.2.2.1 v0 12 32 kv0 (by decide) (by decide)]
            have u73 : (I69 v0 24).toInt = (I v0 24).toInt := by rw [f_I69.2.2.1 v0 12 24 kv0 (by decide) (by decide)]
            have u74 : (I69 v0 25).toInt = (I v0 25).toInt := by rw [f_I69.2.2.1 v0 12 25 kv0 (by decide) (by decide)]
            have u75 : (I69 v0 27).toInt = (I v0 27).toInt := by rw [f_I69.2.2.1 v0 12 27 kv0 (by decide) (by decide)]
            first | (have u76 : (I69 v0 26).toInt = ((I v0 26).toInt + (1)) := by (rw [eI69, show jpI I v0 26 ((I v0 26) + (1 : Int32)) v0 26 = ((I v0 26) + (1 : Int32)) from jpI_at] <;> exact (i_add rfl (show (1 : Int32).toInt = 1 from rfl) (by omega) (by omega)))) | skip
            refine hF 2 (by decide) Z I69 L w_I69 v0 v1 kv0 uR huR kuR (by omega) (by omega) (by omega) (by omega) _ (fun r77 I79 L80 w_I79 f_I79 p81 => ?_)
            have q_I79 : FR Ws_R12 Z I0 Z I79 := q_I69.trans w0.1 w0.2.1 (f_I79.mono (by decide))
            have u82 : (I79 v0 31).toInt = (I69 v0 31).toInt := by rw [f_I79.2.2.1 v0 12 31 kv0 (by decide) (by decide)]
            have u83 : (I79 v0 32).toInt = (I69 v0 32).toInt := by rw [f_I79.2.2.1 v0 12 32 kv0 (by decide) (by decide)]
            have u84 : (I79 v0 24).toInt = (I69 v0 24).toInt := by rw [f_I79.2.2.1 v0 12 24 kv0 (by decide) (by decide)]
            have u85 : (I79 v0 25).toInt = (I69 v0 25).toInt := by rw [f_I79.2.2.1 v0 12 25 kv0 (by decide) (by decide)]
            have rr77 := i_rng r77
            refine ⟨fun c86 => ?_, fun c86 => ?_⟩
            · skip
              first | (have t87 : (0) = (0) := (i_eq (show (0 : Int32).toInt = 0 from rfl) (show (0 : Int32).toInt = 0 from rfl)).mp c86) | (have t87 : (0 : Int32).toInt = (0 : Int32).toInt := (i_eq rfl rfl).mp c86) | skip
              unfold f_X12_sum_b78
              try (have t88 : (v2 - r77).toInt = (v2.toInt - r77.toInt) := (i_sub rfl rfl (by omega) (by omega)))
              exact ih (v2 - r77) I79 L80 w_I79 q_I79   (by omega)  (by omega)
            · skip
              first | (have t89 : ¬ ((0) = (0)) := (not_congr (i_eq (show (0 : Int32).toInt = 0 from rfl) (show (0 : Int32).toInt = 0 from rfl))).mp c86) | (have t89 : ¬ ((0 : Int32).toInt = (0 : Int32).toInt) := (not_congr (i_eq rfl rfl)).mp c86) | skip
              unfold f_X12_sum_b78
              try (have t90 : (v2 + r77).toInt = (v2.toInt + r77.toInt) := (i_add rfl rfl (by omega) (by omega)))
              exact ih (v2 + r77) I79 L80 w_I79 q_I79   (by omega)  (by omega)
          · skip
            first | (have t91 : r65.toInt = (43) := (i_eq rfl (show (43 : Int32).toInt = 43 from rfl)).mp c67) | (have t91 : r65.toInt = (43 : Int32).toInt := (i_eq rfl rfl).mp c67) | skip
            unfold f_X12_sum_b45
            intro I92 eI92
            try (have t93 : ((I v0 26) + (1 : Int32)).toInt = ((I v0 26).toInt + (1)) := (i_add rfl (show (1 : Int32).toInt = 1 from rfl) (by omega) (by omega)))
            have w_I92 : WD Z I92 := by rw [eI92]; exact WD_putF w_I 12 26 kv0 (by decide) (by decide) trivial
            have f_I92 : FR [(12, 26)] Z I Z I92 := by rw [eI92]; exact FR_putF kv0 (by decide) List.mem_cons_self
            have q_I92 : FR Ws_R12 Z I0 Z I92 := q_I.trans w0.1 w0.2.1 (f_I92.mono (by decide))
            have u94 : (I92 v0 31).toInt = (I v0 31).toInt := by rw [f_I92.2.2.1 v0 12 31 kv0 (by decide) (by decide)]
            have u95 : (I92 v0 32).toInt = (I v0 32).toInt := by rw [f_I92.2.2.1 v0 12 32 kv0 (by decide) (by decide)]
            have u96 : (I92 v0 24).toInt = (I v0 24).toInt := by rw [f_I92.2.2.1 v0 12 24 kv0 (by decide) (by decide)]
            have u97 : (I92 v0 25).toInt = (I v0 25).toInt := by rw [f_I92.2.2.1 v0 12 25 kv0 (by decide) (by decide)]
            have u98 : (I92 v0 27).toInt = (I v0 27).toInt := by rw [f_I92.2.2.1 v0 12 27 kv0 (by decide) (by decide)]
            first | (have u99 : (I92 v0 26).toInt = ((I v0 26).toInt + (1)) := by (rw [eI92, show jpI I v0 26 ((I v0 26) + (1 : Int32)) v0 26 = ((I v0 26) + (1 : Int32)) from jpI_at] <;> exact (i_add rfl (show (1 : Int32).toInt = 1 from rfl) (by omega) (by omega)))) | skip
            refine hF 2 (by decide) Z I92 L w_I92 v0 v1 kv0 uR huR kuR (by omega) (by omega) (by omega) (by omega) _ (fun r100 I102 L103 w_I102 f_I102 p104 => ?_)
            have q_I102 : FR Ws_R12 Z I0 Z I102 := q_I92.trans w0.1 w0.2.1 (f_I102.mono (by decide))
            have u105 : (I102 v0 31).toInt = (I92 v0 31).toInt := by rw [f_I102.2.2.1 v0 12 31 kv0 (by decide) (by decide)]
            have u106 : (I102 v0 32).toInt = (I92 v0 32).toInt := by rw [f_I102.2.2.1 v0 12 32 kv0 (by decide) (by decide)]
            have u107 : (I102 v0 24).toInt = (I92 v0 24).toInt := by rw [f_I102.2.2.1 v0 12 24 kv0 (by decide) (by decide)]
            have u108 : (I102 v0 25).toInt = (I92 v0 25).toInt := by rw [f_I102.2.2.1 v0 12 25 kv0 (by decide) (by decide)]
            have rr100 := i_rng r100
            refine ⟨fun c109 => ?_, fun c109 => ?_⟩
            · skip
              first | (have t110 : (1) = (0) := (i_eq (show (1 : Int32).toInt = 1 from rfl) (show (0 : Int32).toInt = 0 from rfl)).mp c109) | (have t110 : (1 : Int32).toInt = (0 : Int32).toInt := (i_eq rfl rfl).mp c109) | skip
              unfold f_X12_sum_b78
              try (have t111 : (v2 - r100).toInt = (v2.toInt - r100.toInt) := (i_sub rfl rfl (by omega) (by omega)))
              exact ih (v2 - r100) I102 L103 w_I102 q_I102   (by omega)  (by omega)
            · skip
              first | (have t112 : ¬ ((1) = (0)) := (not_congr (i_eq (show (1 : Int32).toInt = 1 from rfl) (show (0 : Int32).toInt = 0 from rfl))).mp c109) | (have t112 : ¬ ((1 : Int32).toInt = (0 : Int32).toInt) := (not_congr (i_eq rfl rfl)).mp c109) | skip
              unfold f_X12_sum_b78
              try (have t113 : (v2 + r100).toInt = (v2.toInt + r100.toInt) := (i_add rfl rfl (by omega) (by omega)))
              exact ih (v2 + r100) I102 L103 w_I102 q_I102   (by omega)  (by omega)
set_option maxHeartbeats 4000000 in
set_option maxRecDepth 100000 in
theorem s_X12_sum {d : Nat} {F : FTR12} (hF : HS12 d F) {Z : jZ} {I : jI} {L : jL} (w_I : WD Z I) (v0 : Nat) (v1 : Int32) (kv0 : jk Z v0 12) (uR : Nat) (huR : jr Z v0 23 = some uR) (kuR : jk Z uR 13) (p0 : 0 ≤ (I v0 26).toInt ∧ (I v0 26).toInt ≤ (I v0 24).toInt ∧ (I v0 26).toInt ≤ (I v0 25).toInt ∧ (I v0 24).toInt ≤ (jlen Z uR : Int) ∧ jlen Z uR ≤ 80) (p1 : ((I v0 31).toInt = -1 ∨ (0 ≤ (I v0 31).toInt ∧ (I v0 31).toInt ≤ 23 ∧ (I v0 32).toInt ≤ 23))) (p2 : 0 ≤ v1.toInt ∧ v1.toInt ≤ 4) (p3 : (I v0 25).toInt - (I v0 26).toInt + 4 * (4 - v1.toInt) + 4 - 1 ≤ (d : Int) + 1) {Q : Int32 → jI → jL → Prop} (hQ : ∀ (r : Int32) (I' : jI) (L' : jL), WD Z I' → FR Ws_R12 Z I Z I' → ((I v0 26).toInt ≤ (I' v0 26).toInt ∧ (I' v0 26).toInt ≤ (I v0 24).toInt ∧ (I' v0 26).toInt ≤ (I v0 25).toInt ∧ (¬ (I v0 27).toInt = -1 → ¬ (I' v0 27).toInt = -1)) → Q r I' L') : f_X12_sum F v0 v1 Z I L Q := by
  unfold f_X12_sum
  have q_I : FR Ws_R12 Z I Z I := FR.rf
  have rv1 := i_rng v1
  refine hF 2 (by decide) Z I L w_I v0 v1 kv0 uR huR kuR (by omega) (by omega) (by omega) (by omega) _ (fun r114 I116 L117 w_I116 f_I116 p118 => ?_)
  have q_I116 : FR Ws_R12 Z I Z I116 := q_I.trans w_I.1 w_I.2.1 (f_I116.mono (by decide))
  have u119 : (I116 v0 31).toInt = (I v0 31).toInt := by rw [f_I116.2.2.1 v0 12 31 kv0 (by decide) (by decide)]
  have u120 : (I116 v0 32).toInt = (I v0 32).toInt := by rw [f_I116.2.2.1 v0 12 32 kv0 (by decide) (by decide)]
  have u121 : (I116 v0 24).toInt = (I v0 24).toInt := by rw [f_I116.2.2.1 v0 12 24 kv0 (by decide) (by decide)]
  have u122 : (I116 v0 25).toInt = (I v0 25).toInt := by rw [f_I116.2.2.1 v0 12 25 kv0 (by decide) (by decide)]
  have rr114 := i_rng r114
  exact ⟨((I116 v0 25).toInt - (I116 v0 26).toInt).toNat + 1, l_X12_sum_L6 hF w_I v0 v1 kv0 uR huR kuR p0 p1 p2 p3   hQ   _ r114 I116 L117 w_I116 q_I116   (by omega)  (by omega)⟩
set_option maxHeartbeats 4000000 in
set_option maxRecDepth 100000 in
theorem s_X12_held {d : Nat} {F : FTR12} (hF : HS12 d F) {Z : jZ} {I : jI} {L : jL} (w_I : WD Z I) (v0 : Nat) (v1 : Int32) (kv0 : jk Z v0 12) (uR : Nat) (huR : jr Z v0 23 = some uR) (kuR : jk Z uR 13) (p0 : 0 ≤ (I v0 26).toInt ∧ (I v0 26).toInt ≤ (I v0 24).toInt ∧ (I v0 26).toInt ≤ (I v0 25).toInt ∧ (I v0 24).toInt ≤ (jlen Z uR : Int) ∧ jlen Z uR ≤ 80) (p1 : ((I v0 31).toInt = -1 ∨ (0 ≤ (I v0 31).toInt ∧ (I v0 31).toInt ≤ 23 ∧ (I v0 32).toInt ≤ 23))) (p2 : 0 ≤ v1.toInt ∧ v1.toInt ≤ 4) (p3 : (I v0 25).toInt - (I v0 26).toInt + 4 * (4 - v1.toInt) + 4 - 0 ≤ (d : Int) + 1) {Q : Int32 → jI → jL → Prop} (hQ : ∀ (r : Int32) (I' : jI) (L' : jL), WD Z I' → FR Ws_R12 Z I Z I' → ((I v0 26).toInt ≤ (I' v0 26).toInt ∧ (I' v0 26).toInt ≤ (I v0 24).toInt ∧ (I' v0 26).toInt ≤ (I v0 25).toInt ∧ (¬ (I v0 27).toInt = -1 → ¬ (I' v0 27).toInt = -1)) → Q r I' L') : f_X12_held F v0 v1 Z I L Q := by
  unfold f_X12_held
  have q_I : FR Ws_R12 Z I Z I := FR.rf
  have rv1 := i_rng v1
  refine hF 1 (by decide) Z I L w_I v0 v1 kv0 uR huR kuR (by omega) (by omega) (by omega) (by omega) _ (fun r1 I3 L4 w_I3 f_I3 p5 => ?_)
  have q_I3 : FR Ws_R12 Z I Z I3 := q_I.trans w_I.1 w_I.2.1 (f_I3.mono (by decide))
  have u6 : (I3 v0 31).toInt = (I v0 31).toInt := by rw [f_I3.2.2.1 v0 12 31 kv0 (by decide) (by decide)]
  have u7 : (I3 v0 32).toInt = (I v0 32).toInt := by rw [f_I3.2.2.1 v0 12 32 kv0 (by decide) (by decide)]
  have u8 : (I3 v0 24).toInt = (I v0 24).toInt := by rw [f_I3.2.2.1 v0 12 24 kv0 (by decide) (by decide)]
  have u9 : (I3 v0 25).toInt = (I v0 25).toInt := by rw [f_I3.2.2.1 v0 12 25 kv0 (by decide) (by decide)]
  have rr1 := i_rng r1
  have t10 : (60 : Int32).toInt = 60 := rfl
  refine s_X12_passes w_I3 v0 (60 : Int32) kv0 uR huR kuR (by omega) (by omega) (fun r11 I13 L14 w_I13 f_I13 p12 => ?_)
  have q_I13 : FR Ws_R12 Z I Z I13 := q_I3.trans w_I.1 w_I.2.1 (f_I13.mono (by decide))
  have u15 : (I13 v0 31).toInt = (I3 v0 31).toInt := by rw [f_I13.2.2.1 v0 12 31 kv0 (by decide) (by decide)]
  have u16 : (I13 v0 32).toInt = (I3 v0 32).toInt := by rw [f_I13.2.2.1 v0 12 32 kv0 (by decide) (by decide)]
  have u17 : (I13 v0 24).toInt = (I3 v0 24).toInt := by rw [f_I13.2.2.1 v0 12 24 kv0 (by decide) (by decide)]
  have u18 : (I13 v0 25).toInt = (I3 v0 25).toInt := by rw [f_I13.2.2.1 v0 12 25 kv0 (by decide) (by decide)]
  have u19 : (I13 v0 27).toInt = (I3 v0 27).toInt := by rw [f_I13.2.2.1 v0 12 27 kv0 (by decide) (by decide)]
  have rr11 := i_rng r11
  refine ⟨fun c20 => ?_, fun c20 => ?_⟩
  · skip
    first | (have t21 : r11.toInt = (0) := (i_eq rfl (show (0 : Int32).toInt = 0 from rfl)).mp c20) | (have t21 : r11.toInt = (0 : Int32).toInt := (i_eq rfl rfl).mp c20) | skip
    have t22 : (62 : Int32).toInt = 62 := rfl
    refine s_X12_passes w_I13 v0 (62 : Int32) kv0 uR huR kuR (by omega) (by omega) (fun r23 I25 L26 w_I25 f_I25 p24 => ?_)
    have q_I25 : FR Ws_R12 Z I Z I25 := q_I13.trans w_I.1 w_I.2.1 (f_I25.mono (by decide))
    have u27 : (I25 v0 31).toInt = (I13 v0 31).toInt := by rw [f_I25.2.2.1 v0 12 31 kv0 (by decide) (by decide)]
    have u28 : (I25 v0 32).toInt = (I13 v0 32).toInt := by rw [f_I25.2.2.1 v0 12 32 kv0 (by decide) (by decide)]
    have u29 : (I25 v0 24).toInt = (I13 v0 24).toInt := by rw [f_I25.2.2.1 v0 12 24 kv0 (by decide) (by decide)]
    have u30 : (I25 v0 25).toInt = (I13 v0 25).toInt := by rw [f_I25.2.2.1 v0 12 25 kv0 (by decide) (by decide)]
    have u31 : (I25 v0 27).toInt = (I13 v0 27).toInt := by rw [f_I25.2.2.1 v0 12 27 kv0 (by decide) (by decide)]
    have rr23 := i_rng r23
    refine ⟨fun c32 => ?_, fun c32 => ?_⟩
    · skip
      first | (have t33 : r23.toInt = (0) := (i_eq rfl (show (0 : Int32).toInt = 0 from rfl)).mp c32) | (have t33 : r23.toInt = (0 : Int32).toInt := (i_eq rfl rfl).mp c32) | skip
      have t34 : (61 : Int32).toInt = 61 := rfl
      refine s_X12_passes w_I25 v0 (61 : Int32) kv0 uR huR kuR (by omega) (by omega) (fun r35 I37 L38 w_I37 f_I37 p36 => ?_)
      have q_I37 : FR Ws_R12 Z I Z I37 := q_I25.trans w_I.1 w_I.2.1 (f_I37.mono (by decide))
      have u39 : (I37 v0 31).toInt = (I25 v0 31).toInt := by rw [f_I37.2.2.1 v0 12 31 kv0 (by decide) (by decide)]
      have u40 : (I37 v0 32).toInt = (I25 v0 32).toInt := by rw [f_I37.2.2.1 v0 12 32 kv0 (by decide) (by decide)]
      have u41 : (I37 v0 24).toInt = (I25 v0 24).toInt := by rw [f_I37.2.2.1 v0 12 24 kv0 (by decide) (by decide)]
      have u42 : (I37 v0 25).toInt = (I25 v0 25).toInt := by rw [f_I37.2.2.1 v0 12 25 kv0 (by decide) (by decide)]
      have u43 : (I37 v0 27).toInt = (I25 v0 27).toInt := by rw [f_I37.2.2.1 v0 12 27 kv0 (by decide) (by decide)]
      have rr35 := i_rng r35
      refine ⟨fun c44 => ?_, fun c44 => ?_⟩
      · skip
        first | (have t45 : r35.toInt = (0) := (i_eq rfl (show (0 : Int32).toInt = 0 from rfl)).mp c44) | (have t45 : r35.toInt = (0 : Int32).toInt := (i_eq rfl rfl).mp c44) | skip
        exact hQ r1 I37 L38 w_I37 q_I37 (by omega)
      · skip
        first | (have t46 : ¬ (r35.toInt = (0)) := (not_congr (i_eq rfl (show (0 : Int32).toInt = 0 from rfl))).mp c44) | (have t46 : ¬ (r35.toInt = (0 : Int32).toInt) := (not_congr (i_eq rfl rfl)).mp c44) | skip
        refine hF 1 (by decide) Z I37 L38 w_I37 v0 v1 kv0 uR huR kuR (by omega) (by omega) (by omega) (by omega) _ (fun r47 I49 L50 w_I49 f_I49 p51 => ?_)
        have q_I49 : FR Ws_R12 Z I Z I49 := q_I37.trans w_I.1 w_I.2.1 (f_I49.mono (by decide))
        have u52 : (I49 v0 31).toInt = (I37 v0 31).toInt := by rw [f_I49.2.2.1 v0 12 31 kv0 (by decide) (by decide)]
        have u53 : (I49 v0 32).toInt = (I37 v0 32).toInt := by rw [f_I49.2.2.1 v0 12 32 kv0 (by decide) (by decide)]
        have u54 : (I49 v0 24).toInt = (I37 v0 24).toInt := by rw [f_I49.2.2.1 v0 12 24 kv0 (by decide) (by decide)]
        have u55 : (I49 v0 25).toInt = (I37 v0 25).toInt := by rw [f_I49.2.2.1 v0 12 25 kv0 (by decide) (by decide)]
        have rr47 := i_rng r47
        refine ⟨fun c56 => ?_, fun c56 => ?_⟩
        · skip
          first | (have t57 : ¬ (r1.toInt = r47.toInt) := (not_congr (i_eq rfl rfl)).mp c56) | (have t57 : ¬ (r1.toInt = r47.toInt) := (not_congr (i_eq rfl rfl)).mp c56) | skip
          have t58 : (0 : Int32).toInt = 0 := rfl
          exact hQ (0 : Int32) I49 L50 w_I49 q_I49 (by omega)
        · skip
          first | (have t59 : r1.toInt = r47.toInt := (i_eq rfl rfl).mp c56) | (have t59 : r1.toInt = r47.toInt := (i_eq rfl rfl).mp c56) | skip
          have t60 : (1 : Int32).toInt = 1 := rfl
          exact hQ (1 : Int32) I49 L50 w_I49 q_I49 (by omega)
    · skip
      first | (have t61 : ¬ (r23.toInt = (0)) := (not_congr (i_eq rfl (show (0 : Int32).toInt = 0 from rfl))).mp c32) | (have t61 : ¬ (r23.toInt = (0 : Int32).toInt) := (not_congr (i_eq rfl rfl)).mp c32) | skip
      refine hF 1 (by decide) Z I25 L26 w_I25 v0 v1 kv0 uR huR kuR (by omega) (by omega) (by omega) (by omega) _ (fun r62 I64 L65 w_I64 f_I64 p66 => ?_)
      have q_I64 : FR Ws_R12 Z I Z I64 := q_I25.trans w_I.1 w_I.2.1 (f_I64.mono (by decide))
      have u67 : (I64 v0 31).toInt = (I25 v0 31).toInt := by rw [f_I64.2.2.1 v0 12 31 kv0 (by decide) (by decide)]
      have u68 : (I64 v0 32).toInt = (I25 v0 32).toInt := by rw [f_I64.2.2.1 v0 12 32 kv0 (by decide) (by decide)]
      have u69 : (I64 v0 24).toInt = (I25 v0 24).toInt := by rw [f_I64.2.2.1 v0 12 24 kv0 (by decide) (by decide)]
      have u70 : (I64 v0 25).toInt = (I25 v0 25).toInt := by rw [f_I64.2.2.1 v0 12 25 kv0 (by decide) (by decide)]
      have rr62 := i_rng r62
      refine ⟨fun c71 => ?_, fun c71 => ?_⟩
      · skip
        first | (have t72 : r1.toInt ≤ r62.toInt := (i_le rfl rfl).mp c71) | (have t72 : r1.toInt ≤ r62.toInt := (i_le rfl rfl).mp c71) | skip
        have t73 : (0 : Int32).toInt = 0 := rfl
        exact hQ (0 : Int32) I64 L65 w_I64 q_I64 (by omega)
      · skip
        first | (have t74 : ¬ (r1.toInt ≤ r62.toInt) := (not_congr (i_le rfl rfl)).mp c71) | (have t74 : ¬ (r1.toInt ≤ r62.toInt) := (not_congr (i_le rfl rfl)).mp c71) | skip
        have t75 : (1 : Int32).toInt = 1 := rfl
        exact hQ (1 : Int32) I64 L65 w_I64 q_I64 (by omega)
  · skip
    first | (have t76 : ¬ (r11.toInt = (0)) := (not_congr (i_eq rfl (show (0 : Int32).toInt = 0 from rfl))).mp c20) | (have t76 : ¬ (r11.toInt = (0 : Int32).toInt) := (not_congr (i_eq rfl rfl)).mp c20) | skip
    refine hF 1 (by decide) Z I13 L14 w_I13 v0 v1 kv0 uR huR kuR (by omega) (by omega) (by omega) (by omega) _ (fun r77 I79 L80 w_I79 f_I79 p81 => ?_)
    have q_I79 : FR Ws_R12 Z I Z I79 := q_I13.trans w_I.1 w_I.2.1 (f_I79.mono (by decide))
    have u82 : (I79 v0 31).toInt = (I13 v0 31).toInt := by rw [f_I79.2.2.1 v0 12 31 kv0 (by decide) (by decide)]
    have u83 : (I79 v0 32).toInt = (I13 v0 32).toInt := by rw [f_I79.2.2.1 v0 12 32 kv0 (by decide) (by decide)]
    have u84 : (I79 v0 24).toInt = (I13 v0 24).toInt := by rw [f_I79.2.2.1 v0 12 24 kv0 (by decide) (by decide)]
    have u85 : (I79 v0 25).toInt = (I13 v0 25).toInt := by rw [f_I79.2.2.1 v0 12 25 kv0 (by decide) (by decide)]
    have rr77 := i_rng r77
    refine ⟨fun c86 => ?_, fun c86 => ?_⟩
    · skip
      first | (have t87 : r77.toInt ≤ r1.toInt := (i_le rfl rfl).mp c86) | (have t87 : r77.toInt ≤ r1.toInt := (i_le rfl rfl).mp c86) | skip
      have t88 : (0 : Int32).toInt = 0 := rfl
      exact hQ (0 : Int32) I79 L80 w_I79 q_I79 (by omega)
    · skip
      first | (have t89 : ¬ (r77.toInt ≤ r1.toInt) := (not_congr (i_le rfl rfl)).mp c86) | (have t89 : ¬ (r77.toInt ≤ r1.toInt) := (not_congr (i_le rfl rfl)).mp c86) | skip
      have t90 : (1 : Int32).toInt = 1 := rfl
      exact hQ (1 : Int32) I79 L80 w_I79 q_I79 (by omega)
