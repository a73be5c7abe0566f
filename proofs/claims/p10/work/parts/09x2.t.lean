set_option maxHeartbeats 4000000 in
set_option maxRecDepth 100000 in
theorem t_X12_in {E : Prop} {v9 : Nat} {v0 : Int32} {v1 : Int32} {v2 : Int32} {Z : jZ} {I : jI} {L : jL} {ZJ : jZ} {J : jI} {M : jL} {A : Int32 → jI → jL → Prop} (ag : A1 E v9 Z I L ZJ J M) (h : f_X12_in v0 v1 v2 Z I L A) : GO (OKP A I L J M) (fun Q => f_X12_in v0 v1 v2 ZJ J M Q) := by
  unfold f_X12_in at h ⊢
  try rw [ag.2.2 24 (by decide)]
  try rw [ag.2.2 25 (by decide)]
  try rw [ag.2.2 26 (by decide)]
  try rw [ag.2.2 27 (by decide)]
  try rw [ag.2.2 31 (by decide)]
  try rw [ag.2.2 32 (by decide)]
  try rw [ag.2.2 33 (by decide)]
  try rw [ag.2.2 34 (by decide)]
  refine GO.ite h (fun c h => ?_) (fun c h => ?_)
  · skip
    exact GO.leafP h
  · skip
    refine GO.ite h (fun c h => ?_) (fun c h => ?_)
    · skip
      exact GO.leafP h
    · skip
      exact GO.leafP h
set_option maxHeartbeats 4000000 in
set_option maxRecDepth 100000 in
theorem t_X12_fine {E : Prop} {v0 : Nat} {Z : jZ} {I : jI} {L : jL} {ZJ : jZ} {J : jI} {M : jL} {A : Int32 → jI → jL → Prop} (ag : A1 E v0 Z I L ZJ J M) (h : f_X12_fine v0 Z I L A) : GO (OKP A I L J M) (fun Q => f_X12_fine v0 ZJ J M Q) := by
  unfold f_X12_fine at h ⊢
  try rw [ag.2.2 24 (by decide)]
  try rw [ag.2.2 25 (by decide)]
  try rw [ag.2.2 26 (by decide)]
  try rw [ag.2.2 27 (by decide)]
  try rw [ag.2.2 31 (by decide)]
  try rw [ag.2.2 32 (by decide)]
  try rw [ag.2.2 33 (by decide)]
  try rw [ag.2.2 34 (by decide)]
  refine GO.itn h (fun c h => ?_) (fun c h => ?_)
  · skip
    exact GO.leafP h
  · skip
    exact GO.leafP h
set_option maxHeartbeats 4000000 in
set_option maxRecDepth 100000 in
theorem t_X12_here {E : Prop} {v0 : Nat} {Z : jZ} {I : jI} {L : jL} {ZJ : jZ} {J : jI} {M : jL} {A : Int32 → jI → jL → Prop} (ag : A1 E v0 Z I L ZJ J M) (h : f_X12_here v0 Z I L A) : GO (OKP A I L J M) (fun Q => f_X12_here v0 ZJ J M Q) := by
  unfold f_X12_here at h ⊢
  try rw [ag.2.2 24 (by decide)]
  try rw [ag.2.2 25 (by decide)]
  try rw [ag.2.2 26 (by decide)]
  try rw [ag.2.2 27 (by decide)]
  try rw [ag.2.2 31 (by decide)]
  try rw [ag.2.2 32 (by decide)]
  try rw [ag.2.2 33 (by decide)]
  try rw [ag.2.2 34 (by decide)]
  refine GO.ite h (fun c h => ?_) (fun c h => ?_)
  · skip
    exact GO.leafP h
  · skip
    refine GO.ite h (fun c h => ?_) (fun c h => ?_)
    · skip
      exact GO.leafP h
    · skip
      obtain ⟨b9, e9, f9, n9, k9, j9, l9, a9⟩ := ag.2.1
      refine GO.rd e9 f9 j9 h (fun h => ?_)
      try rw [l9]
      try rw [a9]
      refine GO.ob h (fun o h => ?_)
      exact GO.leafP h
set_option maxHeartbeats 4000000 in
set_option maxRecDepth 100000 in
theorem t_X12_fault {E : Prop} {v0 : Nat} {v1 : Int32} {Z : jZ} {I : jI} {L : jL} {ZJ : jZ} {J : jI} {M : jL} {A : jI → jL → Prop} (ag : A1 E v0 Z I L ZJ J M) (h : f_X12_fault v0 v1 Z I L A) : GO (OKV (fun I L J M => A1 E v0 Z I L ZJ J M) A) (fun Q => f_X12_fault v0 v1 ZJ J M Q) := by
  unfold f_X12_fault at h ⊢
  try rw [ag.2.2 24 (by decide)]
  try rw [ag.2.2 25 (by decide)]
  try rw [ag.2.2 26 (by decide)]
  try rw [ag.2.2 27 (by decide)]
  try rw [ag.2.2 31 (by decide)]
  try rw [ag.2.2 32 (by decide)]
  try rw [ag.2.2 33 (by decide)]
  try rw [ag.2.2 34 (by decide)]
  refine GO.callP (t_X12_fine ag h) (fun r h => ?_)
  try rw [ag.2.2 24 (by decide)]
  try rw [ag.2.2 25 (by decide)]
  try rw [ag.2.2 26 (by decide)]
  try rw [ag.2.2 27 (by decide)]
  try rw [ag.2.2 31 (by decide)]
  try rw [ag.2.2 32 (by decide)]
  try rw [ag.2.2 33 (by decide)]
  try rw [ag.2.2 34 (by decide)]
  refine GO.ite h (fun c h => ?_) (fun c h => ?_)
  · skip
    exact GO.leafV ag h
  · skip
    refine GO.put ag h (fun I J ag h => ?_)
    try rw [ag.2.2 24 (by decide)]
    try rw [ag.2.2 25 (by decide)]
    try rw [ag.2.2 26 (by decide)]
    try rw [ag.2.2 27 (by decide)]
    try rw [ag.2.2 31 (by decide)]
    try rw [ag.2.2 32 (by decide)]
    try rw [ag.2.2 33 (by decide)]
    try rw [ag.2.2 34 (by decide)]
    exact GO.leafV ag h
set_option maxHeartbeats 4000000 in
set_option maxRecDepth 100000 in
theorem t_X12_passes {E : Prop} {v0 : Nat} {v1 : Int32} {Z : jZ} {I : jI} {L : jL} {ZJ : jZ} {J : jI} {M : jL} {A : Int32 → jI → jL → Prop} (ag : A1 E v0 Z I L ZJ J M) (h : f_X12_passes v0 v1 Z I L A) : GO (OKI (fun I L J M => A1 E v0 Z I L ZJ J M) A) (fun Q => f_X12_passes v0 v1 ZJ J M Q) := by
  unfold f_X12_passes at h ⊢
  try rw [ag.2.2 24 (by decide)]
  try rw [ag.2.2 25 (by decide)]
  try rw [ag.2.2 26 (by decide)]
  try rw [ag.2.2 27 (by decide)]
  try rw [ag.2.2 31 (by decide)]
  try rw [ag.2.2 32 (by decide)]
  try rw [ag.2.2 33 (by decide)]
  try rw [ag.2.2 34 (by decide)]
  refine GO.callP (t_X12_fine ag h) (fun r h => ?_)
  try rw [ag.2.2 24 (by decide)]
  try rw [ag.2.2 25 (by decide)]
  try rw [ag.2.2 26 (by decide)]
  try rw [ag.2.2 27 (by decide)]
  try rw [ag.2.2 31 (by decide)]
  try rw [ag.2.2 32 (by decide)]
  try rw [ag.2.2 33 (by decide)]
  try rw [ag.2.2 34 (by decide)]
  refine GO.ite h (fun c h => ?_) (fun c h => ?_)
  · skip
    exact GO.leafI ag h
  · skip
    refine GO.callP (t_X12_here ag h) (fun r h => ?_)
    try rw [ag.2.2 24 (by decide)]
    try rw [ag.2.2 25 (by decide)]
    try rw [ag.2.2 26 (by decide)]
    try rw [ag.2.2 27 (by decide)]
    try rw [ag.2.2 31 (by decide)]
    try rw [ag.2.2 32 (by decide)]
    try rw [ag.2.2 33 (by decide)]
    try rw [ag.2.2 34 (by decide)]
    refine GO.ite h (fun c h => ?_) (fun c h => ?_)
    · skip
      refine GO.put ag h (fun I J ag h => ?_)
      try rw [ag.2.2 24 (by decide)]
      try rw [ag.2.2 25 (by decide)]
      try rw [ag.2.2 26 (by decide)]
      try rw [ag.2.2 27 (by decide)]
      try rw [ag.2.2 31 (by decide)]
      try rw [ag.2.2 32 (by decide)]
      try rw [ag.2.2 33 (by decide)]
      try rw [ag.2.2 34 (by decide)]
      exact GO.leafI ag h
    · skip
      exact GO.leafI ag h
set_option maxHeartbeats 4000000 in
set_option maxRecDepth 100000 in
theorem t_X12_need {E : Prop} {v0 : Nat} {v1 : Int32} {Z : jZ} {I : jI} {L : jL} {ZJ : jZ} {J : jI} {M : jL} {A : jI → jL → Prop} (ag : A1 E v0 Z I L ZJ J M) (h : f_X12_need v0 v1 Z I L A) : GO (OKV (fun I L J M => A1 E v0 Z I L ZJ J M) A) (fun Q => f_X12_need v0 v1 ZJ J M Q) := by
  unfold f_X12_need at h ⊢
  try rw [ag.2.2 24 (by decide)]
  try rw [ag.2.2 25 (by decide)]
  try rw [ag.2.2 26 (by decide)]
  try rw [ag.2.2 27 (by decide)]
  try rw [ag.2.2 31 (by decide)]
  try rw [ag.2.2 32 (by decide)]
  try rw [ag.2.2 33 (by decide)]
  try rw [ag.2.2 34 (by decide)]
  refine GO.callI (t_X12_passes ag h) (fun r I L J M ag h => ?_)
  try rw [ag.2.2 24 (by decide)]
  try rw [ag.2.2 25 (by decide)]
  try rw [ag.2.2 26 (by decide)]
  try rw [ag.2.2 27 (by decide)]
  try rw [ag.2.2 31 (by decide)]
  try rw [ag.2.2 32 (by decide)]
  try rw [ag.2.2 33 (by decide)]
  try rw [ag.2.2 34 (by decide)]
  refine GO.itn h (fun c h => ?_) (fun c h => ?_)
  · skip
    exact GO.leafV ag h
  · skip
    refine GO.callV (t_X12_fault ag h) (fun I L J M ag h => ?_)
    try rw [ag.2.2 24 (by decide)]
    try rw [ag.2.2 25 (by decide)]
    try rw [ag.2.2 26 (by decide)]
    try rw [ag.2.2 27 (by decide)]
    try rw [ag.2.2 31 (by decide)]
    try rw [ag.2.2 32 (by decide)]
    try rw [ag.2.2 33 (by decide)]
    try rw [ag.2.2 34 (by decide)]
    exact GO.leafV ag h
set_option maxHeartbeats 4000000 in
set_option maxRecDepth 100000 in
theorem tl_X12_number_L18 {E : Prop} {v0 : Nat} {Z ZJ : jZ} {A : Int32 → jI → jL → Prop} : ∀ (n : Nat) {v1 : Int32} {v2 : Int32} {v3 : Int32} {v4 : Int32} {v5 : Int32} {I : jI} {L : jL} {J : jI} {M : jL}, A1 E v0 Z I L ZJ J M → f_X12_number_L18 Z A n v0 v1 v2 v3 v4 v5 I L → GO (OKI (fun I L J M => A1 E v0 Z I L ZJ J M) A) (fun Q => ∃ m, f_X12_number_L18 ZJ Q m v0 v1 v2 v3 v4 v5 J M) := by
  intro n
  induction n with
  | zero => intro v1 v2 v3 v4 v5 I L J M ag h; exact h.elim
  | succ n ih =>
    intro v1 v2 v3 v4 v5 I L J M ag h
    refine GO.loop (Bm := fun m Q => f_X12_number_L18 ZJ Q m v0 v1 v2 v3 v4 v5 J M) (fun _ h => h) ?_
    show GO _ (fun q : (Int32 → jI → jL → Prop) × Nat => f_X12_number_L18 ZJ q.1 (q.2 + 1) v0 v1 v2 v3 v4 v5 J M)
    unfold f_X12_number_L18 at h ⊢
    try rw [ag.2.2 24 (by decide)]
    try rw [ag.2.2 25 (by decide)]
    try rw [ag.2.2 26 (by decide)]
    try rw [ag.2.2 27 (by decide)]
    try rw [ag.2.2 31 (by decide)]
    try rw [ag.2.2 32 (by decide)]
    try rw [ag.2.2 33 (by decide)]
    try rw [ag.2.2 34 (by decide)]
    refine GO.ite h (fun c h => ?_) (fun c h => ?_)
    · skip
      unfold f_X12_number_b71 at h ⊢
      try rw [ag.2.2 24 (by decide)]
      try rw [ag.2.2 25 (by decide)]
      try rw [ag.2.2 26 (by decide)]
      try rw [ag.2.2 27 (by decide)]
      try rw [ag.2.2 31 (by decide)]
      try rw [ag.2.2 32 (by decide)]
      try rw [ag.2.2 33 (by decide)]
      try rw [ag.2.2 34 (by decide)]
      refine GO.itn h (fun c h => ?_) (fun c h => ?_)
      · skip
        refine GO.callP (t_X12_in ag h) (fun r h => ?_)
        try rw [ag.2.2 24 (by decide)]
        try rw [ag.2.2 25 (by decide)]
        try rw [ag.2.2 26 (by decide)]
        try rw [ag.2.2 27 (by decide)]
        try rw [ag.2.2 31 (by decide)]
        try rw [ag.2.2 32 (by decide)]
        try rw [ag.2.2 33 (by decide)]
        try rw [ag.2.2 34 (by decide)]
        refine GO.itn h (fun c h => ?_) (fun c h => ?_)
        · skip
          unfold f_X12_number_b111 at h ⊢
          try rw [ag.2.2 24 (by decide)]
          try rw [ag.2.2 25 (by decide)]
          try rw [ag.2.2 26 (by decide)]
          try rw [ag.2.2 27 (by decide)]
          try rw [ag.2.2 31 (by decide)]
          try rw [ag.2.2 32 (by decide)]
          try rw [ag.2.2 33 (by decide)]
          try rw [ag.2.2 34 (by decide)]
          refine GO.callP (t_X12_fine ag h) (fun r h => ?_)
          try rw [ag.2.2 24 (by decide)]
          try rw [ag.2.2 25 (by decide)]
          try rw [ag.2.2 26 (by decide)]
          try rw [ag.2.2 27 (by decide)]
          try rw [ag.2.2 31 (by decide)]
          try rw [ag.2.2 32 (by decide)]
          try rw [ag.2.2 33 (by decide)]
          try rw [ag.2.2 34 (by decide)]
          refine GO.ite h (fun c h => ?_) (fun c h => ?_)
          · skip
            exact GO.leafB (B := fun (Q : Int32 → jI → jL → Prop) => Q _ _ _) (GO.leafI ag h)
          · skip
            exact GO.leafB (B := fun (Q : Int32 → jI → jL → Prop) => Q _ _ _) (GO.leafI ag h)
        · skip
          refine GO.callV (t_X12_fault ag h) (fun I L J M ag h => ?_)
          try rw [ag.2.2 24 (by decide)]
          try rw [ag.2.2 25 (by decide)]
          try rw [ag.2.2 26 (by decide)]
          try rw [ag.2.2 27 (by decide)]
          try rw [ag.2.2 31 (by decide)]
          try rw [ag.2.2 32 (by decide)]
          try rw [ag.2.2 33 (by decide)]
          try rw [ag.2.2 34 (by decide)]
          unfold f_X12_number_b111 at h ⊢
          try rw [ag.2.2 24 (by decide)]
          try rw [ag.2.2 25 (by decide)]
          try rw [ag.2.2 26 (by decide)]
          try rw [ag.2.2 27 (by decide)]
          try rw [ag.2.2 31 (by decide)]
          try rw [ag.2.2 32 (by decide)]
          try rw [ag.2.2 33 (by decide)]
          try rw [ag.2.2 34 (by decide)]
          refine GO.callP (t_X12_fine ag h) (fun r h => ?_)
          try rw [ag.2.2 24 (by decide)]
          try rw [ag.2.2 25 (by decide)]
          try rw [ag.2.2 26 (by decide)]
          try rw [ag.2.2 27 (by decide)]
          try rw [ag.2.2 31 (by decide)]
          try rw [ag.2.2 32 (by decide)]
          try rw [ag.2.2 33 (by decide)]
          try rw [ag.2.2 34 (by decide)]
          refine GO.ite h (fun c h => ?_) (fun c h => ?_)
          · skip
            exact GO.leafB (B := fun (Q : Int32 → jI → jL → Prop) => Q _ _ _) (GO.leafI ag h)
          · skip
            exact GO.leafB (B := fun (Q : Int32 → jI → jL → Prop) => Q _ _ _) (GO.leafI ag h)
      · skip
        refine GO.callV (t_X12_fault ag h) (fun I L J M ag h => ?_)
        try rw [ag.2.2 24 (by decide)]
        try rw [ag.2.2 25 (by decide)]
        try rw [ag.2.2 26 (by decide)]
        try rw [ag.2.2 27 (by decide)]
        try rw [ag.2.2 31 (by decide)]
        try rw [ag.2.2 32 (by decide)]
        try rw [ag.2.2 33 (by decide)]
        try rw [ag.2.2 34 (by decide)]
        unfold f_X12_number_b111 at h ⊢
        try rw [ag.2.2 24 (by decide)]
        try rw [ag.2.2 25 (by decide)]
        try rw [ag.2.2 26 (by decide)]
        try rw [ag.2.2 27 (by decide)]
        try rw [ag.2.2 31 (by decide)]
        try rw [ag.2.2 32 (by decide)]
        try rw [ag.2.2 33 (by decide)]
        try rw [ag.2.2 34 (by decide)]
        refine GO.callP (t_X12_fine ag h) (fun r h => ?_)
        try rw [ag.2.2 24 (by decide)]
        try rw [ag.2.2 25 (by decide)]
        try rw [ag.2.2 26 (by decide)]
        try rw [ag.2.2 27 (by decide)]
        try rw [ag.2.2 31 (by decide)]
        try rw [ag.2.2 32 (by decide)]
        try rw [ag.2.2 33 (by decide)]
        try rw [ag.2.2 34 (by decide)]
        refine GO.ite h (fun c h => ?_) (fun c h => ?_)
        · skip
          exact GO.leafB (B := fun (Q : Int32 → jI → jL → Prop) => Q _ _ _) (GO.leafI ag h)
        · skip
          exact GO.leafB (B := fun (Q : Int32 → jI → jL → Prop) => Q _ _ _) (GO.leafI ag h)
    · skip
      refine GO.callP (t_X12_here ag h) (fun r h => ?_)
      try rw [ag.2.2 24 (by decide)]
      try rw [ag.2.2 25 (by decide)]
      try rw [ag.2.2 26 (by decide)]
      try rw [ag.2.2 27 (by decide)]
      try rw [ag.2.2 31 (by decide)]
      try rw [ag.2.2 32 (by decide)]
      try rw [ag.2.2 33 (by decide)]
      try rw [ag.2.2 34 (by decide)]
      refine GO.callP (t_X12_in ag h) (fun r h => ?_)
      try rw [ag.2.2 24 (by decide)]
      try rw [ag.2.2 25 (by decide)]
      try rw [ag.2.2 26 (by decide)]
      try rw [ag.2.2 27 (by decide)]
      try rw [ag.2.2 31 (by decide)]
      try rw [ag.2.2 32 (by decide)]
      try rw [ag.2.2 33 (by decide)]
      try rw [ag.2.2 34 (by decide)]
      refine GO.ite h (fun c h => ?_) (fun c h => ?_)
      · skip
        unfold f_X12_number_b71 at h ⊢
        try rw [ag.2.2 24 (by decide)]
        try rw [ag.2.2 25 (by decide)]
        try rw [ag.2.2 26 (by decide)]
        try rw [ag.2.2 27 (by decide)]
        try rw [ag.2.2 31 (by decide)]
        try rw [ag.2.2 32 (by decide)]
        try rw [ag.2.2 33 (by decide)]
        try rw [ag.2.2 34 (by decide)]
        refine GO.itn h (fun c h => ?_) (fun c h => ?_)
        · skip
          refine GO.callP (t_X12_in ag h) (fun r h => ?_)
          try rw [ag.2.2 24 (by decide)]
          try rw [ag.2.2 25 (by decide)]
          try rw [ag.2.2 26 (by decide)]
          try rw [ag.2.2 27 (by decide)]
          try rw [ag.2.2 31 (by decide)]
          try rw [ag.2.2 32 (by decide)]
          try rw [ag.2.2 33 (by decide)]
          try rw [ag.2.2 34 (by decide)]
          refine GO.itn h (fun c h => ?_) (fun c h => ?_)
          · skip
            unfold f_X12_number_b111 at h ⊢
            try rw [ag.2.2 24 (by decide)]
            try rw [ag.2.2 25 (by decide)]
            try rw [ag.2.2 26 (by decide)]
            try rw [ag.2.2 27 (by decide)]
            try rw [ag.2.2 31 (by decide)]
            try rw [ag.2.2 32 (by decide)]
            try rw [ag.2.2 33 (by decide)]
            try rw [ag.2.2 34 (by decide)]
            refine GO.callP (t_X12_fine ag h) (fun r h => ?_)
            try rw [ag.2.2 24 (by decide)]
            try rw [ag.2.2 25 (by decide)]
            try rw [ag.2.2 26 (by decide)]
            try rw [ag.2.2 27 (by decide)]
            try rw [ag.2.2 31 (by decide)]
            try rw [ag.2.2 32 (by decide)]
            try rw [ag.2.2 33 (by decide)]
            try rw [ag.2.2 34 (by decide)]
            refine GO.ite h (fun c h => ?_) (fun c h => ?_)
            · skip
              exact GO.leafB (B := fun (Q : Int32 → jI → jL → Prop) => Q _ _ _) (GO.leafI ag h)
            · skip
              exact GO.leafB (B := fun (Q : Int32 → jI → jL → Prop) => Q _ _ _) (GO.leafI ag h)
          · skip
            refine GO.callV (t_X12_fault ag h) (fun I L J M ag h => ?_)
            try rw [ag.2.2 24 (by decide)]
            try rw [ag.2.2 25 (by decide)]
            try rw [ag.2.2 26 (by decide)]
            try rw [ag.2.2 27 (by decide)]
            try rw [ag.2.2 31 (by decide)]
            try rw [ag.2.2 32 (by decide)]
            try rw [ag.2.2 33 (by decide)]
            try rw [ag.2.2 34 (by decide)]
            unfold f_X12_number_b111 at h ⊢
            try rw [ag.2.2 24 (by decide)]
            try rw [ag.2.2 25 (by decide)]
            try rw [ag.2.2 26 (by decide)]
            try rw [ag.2.2 27 (by decide)]
            try rw [ag.2.2 31 (by decide)]
            try rw [ag.2.2 32 (by decide)]
            try rw [ag.2.2 33 (by decide)]
            try rw [ag.2.2 34 (by decide)]
            refine GO.callP (t_X12_fine ag h) (fun r h => ?_)
            try rw [ag.2.2 24 (by decide)]
            try rw [ag.2.2 25 (by decide)]
            try rw [ag.2.2 26 (by decide)]
            try rw [ag.2.2 27 (by decide)]
            try rw [ag.2.2 31 (by decide)]
            try rw [ag.2.2 32 (by decide)]
            try rw [ag.2.2 33 (by decide)]
            try rw [ag.2.2 34 (by decide)]
            refine GO.ite h (fun c h => ?_) (fun c h => ?_)
            · skip
              exact GO.leafB (B := fun (Q : Int32 → jI → jL → Prop) => Q _ _ _) (GO.leafI ag h)
            · skip
              exact GO.leafB (B := fun (Q : Int32 → jI → jL → Prop) => Q _ _ _) (GO.leafI ag h)
        · skip
          refine GO.callV (t_X12_fault ag h) (fun I L J M ag h => ?_)
          try rw [ag.2.2 24 (by decide)]
          try rw [ag.2.2 25 (by decide)]
          try rw [ag.2.2 26 (by decide)]
          try rw [ag.2.2 27 (by decide)]
          try rw [ag.2.2 31 (by decide)]
          try rw [ag.2.2 32 (by decide)]
          try rw [ag.2.2 33 (by decide)]
          try rw [ag.2.2 34 (by decide)]
          unfold f_X12_number_b111 at h ⊢
          try rw [ag.2.2 24 (by decide)]
          try rw [ag.2.2 25 (by decide)]
          try rw [ag.2.2 26 (by decide)]
          try rw [ag.2.2 27 (by decide)]
          try rw [ag.2.2 31 (by decide)]
          try rw [ag.2.2 32 (by decide)]
          try rw [ag.2.2 33 (by decide)]
          try rw [ag.2.2 34 (by decide)]
          refine GO.callP (t_X12_fine ag h) (fun r h => ?_)
          try rw [ag.2.2 24 (by decide)]
          try rw [ag.2.2 25 (by decide)]
          try rw [ag.2.2 26 (by decide)]
          try rw [ag.2.2 27 (by decide)]
          try rw [ag.2.2 31 (by decide)]
          try rw [ag.2.2 32 (by decide)]
          try rw [ag.2.2 33 (by decide)]
          try rw [ag.2.2 34 (by decide)]
          refine GO.ite h (fun c h => ?_) (fun c h => ?_)
          · skip
            exact GO.leafB (B := fun (Q : Int32 → jI → jL → Prop) => Q _ _ _) (GO.leafI ag h)
          · skip
            exact GO.leafB (B := fun (Q : Int32 → jI → jL → Prop) => Q _ _ _) (GO.leafI ag h)
      · skip
        refine GO.callP (t_X12_here ag h) (fun r h => ?_)
        try rw [ag.2.2 24 (by decide)]
        try rw [ag.2.2 25 (by decide)]
        try rw [ag.2.2 26 (by decide)]
        try rw [ag.2.2 27 (by decide)]
        try rw [ag.2.2 31 (by decide)]
        try rw [ag.2.2 32 (by decide)]
        try rw [ag.2.2 33 (by decide)]
        try rw [ag.2.2 34 (by decide)]
        refine GO.eq h (fun h => ?_)
        refine GO.put ag h (fun I J ag h => ?_)
        try rw [ag.2.2 24 (by decide)]
        try rw [ag.2.2 25 (by decide)]
        try rw [ag.2.2 26 (by decide)]
        try rw [ag.2.2 27 (by decide)]
        try rw [ag.2.2 31 (by decide)]
        try rw [ag.2.2 32 (by decide)]
        try rw [ag.2.2 33 (by decide)]
        try rw [ag.2.2 34 (by decide)]
        have g9 := GO.back (ih ag h)
        exact g9
set_option maxHeartbeats 4000000 in
set_option maxRecDepth 100000 in
theorem t_X12_number {E : Prop} {v0 : Nat} {v1 : Int32} {v2 : Int32} {v3 : Int32} {Z : jZ} {I : jI} {L : jL} {ZJ : jZ} {J : jI} {M : jL} {A : Int32 → jI → jL → Prop} (ag : A1 E v0 Z I L ZJ J M) (h : f_X12_number v0 v1 v2 v3 Z I L A) : GO (OKI (fun I L J M => A1 E v0 Z I L ZJ J M) A) (fun Q => f_X12_number v0 v1 v2 v3 ZJ J M Q) := by
  unfold f_X12_number at h ⊢
  try rw [ag.2.2 24 (by decide)]
  try rw [ag.2.2 25 (by decide)]
  try rw [ag.2.2 26 (by decide)]
  try rw [ag.2.2 27 (by decide)]
  try rw [ag.2.2 31 (by decide)]
  try rw [ag.2.2 32 (by decide)]
  try rw [ag.2.2 33 (by decide)]
  try rw [ag.2.2 34 (by decide)]
  refine GO.callP (t_X12_fine ag h) (fun r h => ?_)
  try rw [ag.2.2 24 (by decide)]
  try rw [ag.2.2 25 (by decide)]
  try rw [ag.2.2 26 (by decide)]
  try rw [ag.2.2 27 (by decide)]
  try rw [ag.2.2 31 (by decide)]
  try rw [ag.2.2 32 (by decide)]
  try rw [ag.2.2 33 (by decide)]
  try rw [ag.2.2 34 (by decide)]
  refine GO.itn h (fun c h => ?_) (fun c h => ?_)
  · skip
    refine GO.eq h (fun h => ?_)
    obtain ⟨n9, h⟩ := h
    exact tl_X12_number_L18 n9 ag h
  · skip
    exact GO.leafI ag h
set_option maxHeartbeats 4000000 in
set_option maxRecDepth 100000 in
theorem tl_X12_mainOf_L4 {E : Prop} {v0 : Nat} {Z ZJ : jZ} {A : Int32 → jI → jL → Prop} : ∀ (n : Nat) {v1 : Int32} {v2 : Int32} {v3 : Int32} {I : jI} {L : jL} {J : jI} {M : jL}, A0 E v0 Z I L ZJ J M → f_X12_mainOf_L4 Z A n v0 v1 v2 v3 I L → GO (OKP A I L J M) (fun Q => ∃ m, f_X12_mainOf_L4 ZJ Q m v0 v1 v2 v3 J M) := by
  intro n
  induction n with
  | zero => intro v1 v2 v3 I L J M ag h; exact h.elim
  | succ n ih =>
    intro v1 v2 v3 I L J M ag h
    refine GO.loop (Bm := fun m Q => f_X12_mainOf_L4 ZJ Q m v0 v1 v2 v3 J M) (fun _ h => h) ?_
    show GO _ (fun q : (Int32 → jI → jL → Prop) × Nat => f_X12_mainOf_L4 ZJ q.1 (q.2 + 1) v0 v1 v2 v3 J M)
    unfold f_X12_mainOf_L4 at h ⊢
    refine GO.ite h (fun c h => ?_) (fun c h => ?_)
    · skip
      exact GO.leafB (B := fun (Q : Int32 → jI → jL → Prop) => Q _ _ _) (GO.leafP h)
    · skip
      obtain ⟨b1, eb1, fb1, nb1, ab1⟩ := ag.2.1 5 (by decide)
      refine GO.ref eb1 fb1 h (fun h => ?_)
      try rw [ab1]
      refine GO.ob h (fun o h => ?_)
      obtain ⟨b2, eb2, fb2, nb2, ab2⟩ := ag.2.1 5 (by decide)
      refine GO.ref eb2 fb2 h (fun h => ?_)
      try rw [ab2]
      refine GO.ob h (fun o h => ?_)
      refine GO.ite h (fun c h => ?_) (fun c h => ?_)
      · skip
        unfold f_X12_mainOf_b37 at h ⊢
        try rw [ag.arr 5 (by decide) eb1]
        try rw [ag.arr 5 (by decide) eb2]
        refine GO.eq h (fun h => ?_)
        have g9 := GO.back (ih ag h)
        exact g9
      · skip
        unfold f_X12_mainOf_b37 at h ⊢
        try rw [ag.arr 5 (by decide) eb1]
        try rw [ag.arr 5 (by decide) eb2]
        refine GO.eq h (fun h => ?_)
        have g9 := GO.back (ih ag h)
        exact g9
set_option maxHeartbeats 4000000 in
set_option maxRecDepth 100000 in
theorem t_X12_mainOf {E : Prop} {v0 : Nat} {v1 : Int32} {Z : jZ} {I : jI} {L : jL} {ZJ : jZ} {J : jI} {M : jL} {A : Int32 → jI → jL → Prop} (ag : A0 E v0 Z I L ZJ J M) (h : f_X12_mainOf v0 v1 Z I L A) : GO (OKP A I L J M) (fun Q => f_X12_mainOf v0 v1 ZJ J M Q) := by
  unfold f_X12_mainOf at h ⊢
  obtain ⟨n9, h⟩ := h
  exact tl_X12_mainOf_L4 n9 ag h
set_option maxHeartbeats 4000000 in
set_option maxRecDepth 100000 in
theorem t_X12_letter {E : Prop} {v0 : Nat} {v1 : Int32} {Z : jZ} {I : jI} {L : jL} {ZJ : jZ} {J : jI} {M : jL} {A : Int32 → jI → jL → Prop} (ag : A1 E v0 Z I L ZJ J M) (h : f_X12_letter v0 v1 Z I L A) : GO (OKP A I L J M) (fun Q => f_X12_letter v0 v1 ZJ J M Q) := by
  unfold f_X12_letter at h ⊢
  try rw [ag.2.2 24 (by decide)]
  try rw [ag.2.2 25 (by decide)]
  try rw [ag.2.2 26 (by decide)]
  try rw [ag.2.2 27 (by decide)]
  try rw [ag.2.2 31 (by decide)]
  try rw [ag.2.2 32 (by decide)]
  try rw [ag.2.2 33 (by decide)]
  try rw [ag.2.2 34 (by decide)]
  refine GO.ite h (fun c h => ?_) (fun c h => ?_)
  · skip
    obtain ⟨b1, eb1, fb1, nb1, ab1⟩ := ag.1.2.1 3 (by decide)
    refine GO.ref eb1 fb1 h (fun h => ?_)
    try rw [ab1]
    refine GO.ob h (fun o h => ?_)
    exact GO.leafP h
  · skip
    refine GO.ite h (fun c h => ?_) (fun c h => ?_)
    · skip
      exact GO.leafP h
    · skip
      refine GO.ite h (fun c h => ?_) (fun c h => ?_)
      · skip
        obtain ⟨b2, eb2, fb2, nb2, ab2⟩ := ag.1.2.1 1 (by decide)
        refine GO.ref eb2 fb2 h (fun h => ?_)
        try rw [ab2]
        refine GO.ob h (fun o h => ?_)
        exact GO.leafP h
      · skip
        refine GO.ite h (fun c h => ?_) (fun c h => ?_)
        · skip
          obtain ⟨b3, eb3, fb3, nb3, ab3⟩ := ag.1.2.1 2 (by decide)
          refine GO.ref eb3 fb3 h (fun h => ?_)
          try rw [ab3]
          refine GO.ob h (fun o h => ?_)
          exact GO.leafP h
        · skip
          refine GO.ite h (fun c h => ?_) (fun c h => ?_)
          · skip
            obtain ⟨b4, eb4, fb4, nb4, ab4⟩ := ag.1.2.1 4 (by decide)
            refine GO.ref eb4 fb4 h (fun h => ?_)
            try rw [ab4]
            refine GO.ob h (fun o h => ?_)
            refine GO.ite h (fun c h => ?_) (fun c h => ?_)
            · skip
              exact GO.leafP h
            · skip
              exact GO.leafP h
          · skip
            refine GO.ite h (fun c h => ?_) (fun c h => ?_)
            · skip
              refine GO.ite h (fun c h => ?_) (fun c h => ?_)
              · skip
                exact GO.leafP h
              · skip
                obtain ⟨b5, eb5, fb5, nb5, ab5⟩ := ag.1.2.1 6 (by decide)
                refine GO.ref eb5 fb5 h (fun h => ?_)
                try rw [ab5]
                refine GO.callP (t_X12_mainOf ag.1 h) (fun r h => ?_)
                try rw [ag.2.2 24 (by decide)]
                try rw [ag.2.2 25 (by decide)]
                try rw [ag.2.2 26 (by decide)]
                try rw [ag.2.2 27 (by decide)]
                try rw [ag.2.2 31 (by decide)]
                try rw [ag.2.2 32 (by decide)]
                try rw [ag.2.2 33 (by decide)]
                try rw [ag.2.2 34 (by decide)]
                try rw [ag.1.arr 6 (by decide) eb5]
                refine GO.callP (t_X12_mainOf ag.1 h) (fun r h => ?_)
                try rw [ag.2.2 24 (by decide)]
                try rw [ag.2.2 25 (by decide)]
                try rw [ag.2.2 26 (by decide)]
                try rw [ag.2.2 27 (by decide)]
                try rw [ag.2.2 31 (by decide)]
                try rw [ag.2.2 32 (by decide)]
                try rw [ag.2.2 33 (by decide)]
                try rw [ag.2.2 34 (by decide)]
                try rw [ag.1.arr 6 (by decide) eb5]
                refine GO.ob h (fun o h => ?_)
                refine GO.ite h (fun c h => ?_) (fun c h => ?_)
                · skip
                  exact GO.leafP h
                · skip
                  exact GO.leafP h
            · skip
              exact GO.leafP h
set_option maxHeartbeats 4000000 in
set_option maxRecDepth 100000 in
theorem t_X12_held {F : FTR12} (hF : HT F) {E : Prop} {v0 : Nat} {v1 : Int32} {Z : jZ} {I : jI} {L : jL} {ZJ : jZ} {J : jI} {M : jL} {A : Int32 → jI → jL → Prop} (ag : A1 E v0 Z I L ZJ J M) (h : f_X12_held F v0 v1 Z I L A) : GO (OKI (fun I L J M => A1 E v0 Z I L ZJ J M) A) (fun Q => f_X12_held F v0 v1 ZJ J M Q) := by
  unfold f_X12_held at h ⊢
  try rw [ag.2.2 24 (by decide)]
  try rw [ag.2.2 25 (by decide)]
  try rw [ag.2.2 26 (by decide)]
  try rw [ag.2.2 27 (by decide)]
  try rw [ag.2.2 31 (by decide)]
  try rw [ag.2.2 32 (by decide)]
  try rw [ag.2.2 33 (by decide)]
  try rw [ag.2.2 34 (by decide)]
  refine GO.callI (hF 1 (by decide) ag h) (fun r I L J M ag h => ?_)
  try rw [ag.2.2 24 (by decide)]
  try rw [ag.2.2 25 (by decide)]
  try rw [ag.2.2 26 (by decide)]
  try rw [ag.2.2 27 (by decide)]
  try rw [ag.2.2 31 (by decide)]
  try rw [ag.2.2 32 (by decide)]
  try rw [ag.2.2 33 (by decide)]
  try rw [ag.2.2 34 (by decide)]
  refine GO.callI (t_X12_passes ag h) (fun r I L J M ag h => ?_)
  try rw [ag.2.2 24 (by decide)]
  try rw [ag.2.2 25 (by decide)]
  try rw [ag.2.2 26 (by decide)]
  try rw [ag.2.2 27 (by decide)]
  try rw [ag.2.2 31 (by decide)]
  try rw [ag.2.2 32 (by decide)]
  try rw [ag.2.2 33 (by decide)]
  try rw [ag.2.2 34 (by decide)]
  refine GO.ite h (fun c h => ?_) (fun c h => ?_)
  · skip
    refine GO.callI (t_X12_passes ag h) (fun r I L J M ag h => ?_)
    try rw [ag.2.2 24 (by decide)]
    try rw [ag.2.2 25 (by decide)]
    try rw [ag.2.2 26 (by decide)]
    try rw [ag.2.2 27 (by decide)]
    try rw [ag.2.2 31 (by decide)]
    try rw [ag.2.2 32 (by decide)]
    try rw [ag.2.2 33 (by decide)]
    try rw [ag.2.2 34 (by decide)]
    refine GO.ite h (fun c h => ?_) (fun c h => ?_)
    · skip
      refine GO.callI (t_X12_passes ag h) (fun r I L J M ag h => ?_)
      try rw [ag.2.2 24 (by decide)]
      try rw [ag.2.2 25 (by decide)]
      try rw [ag.2.2 26 (by decide)]
      try rw [ag.2.2 27 (by decide)]
      try rw [ag.2.2 31 (by decide)]
      try rw [ag.2.2 32 (by decide)]
      try rw [ag.2.2 33 (by decide)]
      try rw [ag.2.2 34 (by decide)]
      refine GO.ite h (fun c h => ?_) (fun c h => ?_)
      · skip
        exact GO.leafI ag h
      · skip
        refine GO.callI (hF 1 (by decide) ag h) (fun r I L J M ag h => ?_)
        try rw [ag.2.2 24 (by decide)]
        try rw [ag.2.2 25 (by decide)]
        try rw [ag.2.2 26 (by decide)]
        try rw [ag.2.2 27 (by decide)]
        try rw [ag.2.2 31 (by decide)]
        try rw [ag.2.2 32 (by decide)]
        try rw [ag.2.2 33 (by decide)]
        try rw [ag.2.2 34 (by decide)]
        refine GO.itn h (fun c h => ?_) (fun c h => ?_)
        · skip
          exact GO.leafI ag h
        · skip
          exact GO.leafI ag h
    · skip
      refine GO.callI (hF 1 (by decide) ag h) (fun r I L J M ag h => ?_)
      try rw [ag.2.2 24 (by decide)]
      try rw [ag.2.2 25 (by decide)]
      try rw [ag.2.2 26 (by decide)]
      try rw [ag.2.2 27 (by decide)]
      try rw [ag.2.2 31 (by decide)]
      try rw [ag.2.2 32 (by decide)]
      try rw [ag.2.2 33 (by decide)]
      try rw [ag.2.2 34 (by decide)]
      refine GO.ite h (fun c h => ?_) (fun c h => ?_)
      · skip
        exact GO.leafI ag h
      · skip
        exact GO.leafI ag h
  · skip
    refine GO.callI (hF 1 (by decide) ag h) (fun r I L J M ag h => ?_)
    try rw [ag.2.2 24 (by decide)]
    try rw [ag.2.2 25 (by decide)]
    try rw [ag.2.2 26 (by decide)]
    try rw [ag.2.2 27 (by decide)]
    try rw [ag.2.2 31 (by decide)]
    try rw [ag.2.2 32 (by decide)]
    try rw [ag.2.2 33 (by decide)]
    try rw [ag.2.2 34 (by decide)]
    refine GO.ite h (fun c h => ?_) (fun c h => ?_)
    · skip
      exact GO.leafI ag h
    · skip
      exact GO.leafI ag h
set_option maxHeartbeats 4000000 in
set_option maxRecDepth 100000 in
theorem tl_X12_sum_L6 {F : FTR12} (hF : HT F) {E : Prop} {v0 : Nat} {Z ZJ : jZ} {A : Int32 → jI → jL → Prop} : ∀ (n : Nat) {v1 : Int32} {v2 : Int32} {I : jI} {L : jL} {J : jI} {M : jL}, A1 E v0 Z I L ZJ J M → f_X12_sum_L6 F Z A n v0 v1 v2 I L → GO (OKI (fun I L J M => A1 E v0 Z I L ZJ J M) A) (fun Q => ∃ m, f_X12_sum_L6 F ZJ Q m v0 v1 v2 J M) := by
  intro n
  induction n with
  | zero => intro v1 v2 I L J M ag h; exact h.elim
  | succ n ih =>
    intro v1 v2 I L J M ag h
    refine GO.loop (Bm := fun m Q => f_X12_sum_L6 F ZJ Q m v0 v1 v2 J M) (fun _ h => h) ?_
    show GO _ (fun q : (Int32 → jI → jL → Prop) × Nat => f_X12_sum_L6 F ZJ q.1 (q.2 + 1) v0 v1 v2 J M)
    unfold f_X12_sum_L6 at h ⊢
    try rw [ag.2.2 24 (by decide)]
    try rw [ag.2.2 25 (by decide)]
    try rw [ag.2.2 26 (by decide)]
    try rw [ag.2.2 27 (by decide)]
    try rw [ag.2.2 31 (by decide)]
    try rw [ag.2.2 32 (by decide)]
    try rw [ag.2.2 33 (by decide)]
    try rw [ag.2.2 34 (by decide)]
    refine GO.callP (t_X12_fine ag h) (fun r h => ?_)
    try rw [ag.2.2 24 (by decide)]
    try rw [ag.2.2 25 (by decide)]
    try rw [ag.2.2 26 (by decide)]
    try rw [ag.2.2 27 (by decide)]
    try rw [ag.2.2 31 (by decide)]
    try rw [ag.2.2 32 (by decide)]
    try rw [ag.2.2 33 (by decide)]
    try rw [ag.2.2 34 (by decide)]
    refine GO.ite h (fun c h => ?_) (fun c h => ?_)
    · skip
      exact GO.leafB (B := fun (Q : Int32 → jI → jL → Prop) => Q _ _ _) (GO.leafI ag h)
    · skip
      refine GO.callP (t_X12_here ag h) (fun r h => ?_)
      try rw [ag.2.2 24 (by decide)]
      try rw [ag.2.2 25 (by decide)]
      try rw [ag.2.2 26 (by decide)]
      try rw [ag.2.2 27 (by decide)]
      try rw [ag.2.2 31 (by decide)]
      try rw [ag.2.2 32 (by decide)]
      try rw [ag.2.2 33 (by decide)]
      try rw [ag.2.2 34 (by decide)]
      refine GO.ite h (fun c h => ?_) (fun c h => ?_)
      · skip
        unfold f_X12_sum_b31 at h ⊢
        try rw [ag.2.2 24 (by decide)]
        try rw [ag.2.2 25 (by decide)]
        try rw [ag.2.2 26 (by decide)]
        try rw [ag.2.2 27 (by decide)]
        try rw [ag.2.2 31 (by decide)]
        try rw [ag.2.2 32 (by decide)]
        try rw [ag.2.2 33 (by decide)]
        try rw [ag.2.2 34 (by decide)]
        refine GO.callP (t_X12_here ag h) (fun r h => ?_)
        try rw [ag.2.2 24 (by decide)]
        try rw [ag.2.2 25 (by decide)]
        try rw [ag.2.2 26 (by decide)]
        try rw [ag.2.2 27 (by decide)]
        try rw [ag.2.2 31 (by decide)]
        try rw [ag.2.2 32 (by decide)]
        try rw [ag.2.2 33 (by decide)]
        try rw [ag.2.2 34 (by decide)]
        refine GO.itn h (fun c h => ?_) (fun c h => ?_)
        · skip
          unfold f_X12_sum_b45 at h ⊢
          try rw [ag.2.2 24 (by decide)]
          try rw [ag.2.2 25 (by decide)]
          try rw [ag.2.2 26 (by decide)]
          try rw [ag.2.2 27 (by decide)]
          try rw [ag.2.2 31 (by decide)]
          try rw [ag.2.2 32 (by decide)]
          try rw [ag.2.2 33 (by decide)]
          try rw [ag.2.2 34 (by decide)]
          refine GO.put ag h (fun I J ag h => ?_)
          try rw [ag.2.2 24 (by decide)]
          try rw [ag.2.2 25 (by decide)]
          try rw [ag.2.2 26 (by decide)]
          try rw [ag.2.2 27 (by decide)]
          try rw [ag.2.2 31 (by decide)]
          try rw [ag.2.2 32 (by decide)]
          try rw [ag.2.2 33 (by decide)]
          try rw [ag.2.2 34 (by decide)]
          refine GO.callI (hF 2 (by decide) ag h) (fun r I L J M ag h => ?_)
          try rw [ag.2.2 24 (by decide)]
          try rw [ag.2.2 25 (by decide)]
          try rw [ag.2.2 26 (by decide)]
          try rw [ag.2.2 27 (by decide)]
          try rw [ag.2.2 31 (by decide)]
          try rw [ag.2.2 32 (by decide)]
          try rw [ag.2.2 33 (by decide)]
          try rw [ag.2.2 34 (by decide)]
          refine GO.ite h (fun c h => ?_) (fun c h => ?_)
          · skip
            unfold f_X12_sum_b78 at h ⊢
            try rw [ag.2.2 24 (by decide)]
            try rw [ag.2.2 25 (by decide)]
            try rw [ag.2.2 26 (by decide)]
            try rw [ag.2.2 27 (by decide)]
            try rw [ag.2.2 31 (by decide)]
            try rw [ag.2.2 32 (by decide)]
            try rw [ag.2.2 33 (by decide)]
            try rw [ag.2.2 34 (by decide)]
            have g9 := GO.back (ih ag h)
            exact g9
          · skip
            unfold f_X12_sum_b78 at h ⊢
            try rw [ag.2.2 24 (by decide)]
            try rw [ag.2.2 25 (by decide)]
            try rw [ag.2.2 26 (by decide)]
            try rw [ag.2.2 27 (by decide)]
            try rw [ag.2.2 31 (by decide)]
            try rw [ag.2.2 32 (by decide)]
            try rw [ag.2.2 33 (by decide)]
            try rw [ag.2.2 34 (by decide)]
            have g9 := GO.back (ih ag h)
            exact g9
        · skip
          unfold f_X12_sum_b45 at h ⊢
          try rw [ag.2.2 24 (by decide)]
          try rw [ag.2.2 25 (by decide)]
          try rw [ag.2.2 26 (by decide)]
          try rw [ag.2.2 27 (by decide)]
          try rw [ag.2.2 31 (by decide)]
          try rw [ag.2.2 32 (by decide)]
          try rw [ag.2.2 33 (by decide)]
          try rw [ag.2.2 34 (by decide)]
          refine GO.put ag h (fun I J ag h => ?_)
          try rw [ag.2.2 24 (by decide)]
          try rw [ag.2.2 25 (by decide)]
          try rw [ag.2.2 26 (by decide)]
          try rw [ag.2.2 27 (by decide)]
          try rw [ag.2.2 31 (by decide)]
          try rw [ag.2.2 32 (by decide)]
          try rw [ag.2.2 33 (by decide)]
          try rw [ag.2.2 34 (by decide)]
          refine GO.callI (hF 2 (by decide) ag h) (fun r I L J M ag h => ?_)
          try rw [ag.2.2 24 (by decide)]
          try rw [ag.2.2 25 (by decide)]
          try rw [ag.2.2 26 (by decide)]
          try rw [ag.2.2 27 (by decide)]
          try rw [ag.2.2 31 (by decide)]
          try rw [ag.2.2 32 (by decide)]
          try rw [ag.2.2 33 (by decide)]
          try rw [ag.2.2 34 (by decide)]
          refine GO.ite h (fun c h => ?_) (fun c h => ?_)
          · skip
            unfold f_X12_sum_b78 at h ⊢
            try rw [ag.2.2 24 (by decide)]
            try rw [ag.2.2 25 (by decide)]
            try rw [ag.2.2 26 (by decide)]
            try rw [ag.2.2 27 (by decide)]
            try rw [ag.2.2 31 (by decide)]
            try rw [ag.2.2 32 (by decide)]
            try rw [ag.2.2 33 (by decide)]
            try rw [ag.2.2 34 (by decide)]
            have g9 := GO.back (ih ag h)
            exact g9
          · skip
            unfold f_X12_sum_b78 at h ⊢
            try rw [ag.2.2 24 (by decide)]
            try rw [ag.2.2 25 (by decide)]
            try rw [ag.2.2 26 (by decide)]
            try rw [ag.2.2 27 (by decide)]
            try rw [ag.2.2 31 (by decide)]
            try rw [ag.2.2 32 (by decide)]
            try rw [ag.2.2 33 (by decide)]
            try rw [ag.2.2 34 (by decide)]
            have g9 := GO.back (ih ag h)
            exact g9
      · skip
        refine GO.callP (t_X12_here ag h) (fun r h => ?_)
        try rw [ag.2.2 24 (by decide)]
        try rw [ag.2.2 25 (by decide)]
        try rw [ag.2.2 26 (by decide)]
        try rw [ag.2.2 27 (by decide)]
        try rw [ag.2.2 31 (by decide)]
        try rw [ag.2.2 32 (by decide)]
        try rw [ag.2.2 33 (by decide)]
        try rw [ag.2.2 34 (by decide)]
        refine GO.itn h (fun c h => ?_) (fun c h => ?_)
        · skip
          exact GO.leafB (B := fun (Q : Int32 → jI → jL → Prop) => Q _ _ _) (GO.leafI ag h)
        · skip
          unfold f_X12_sum_b31 at h ⊢
          try rw [ag.2.2 24 (by decide)]
          try rw [ag.2.2 25 (by decide)]
          try rw [ag.2.2 26 (by decide)]
          try rw [ag.2.2 27 (by decide)]
          try rw [ag.2.2 31 (by decide)]
          try rw [ag.2.2 32 (by decide)]
          try rw [ag.2.2 33 (by decide)]
          try rw [ag.2.2 34 (by decide)]
          refine GO.callP (t_X12_here ag h) (fun r h => ?_)
          try rw [ag.2.2 24 (by decide)]
          try rw [ag.2.2 25 (by decide)]
          try rw [ag.2.2 26 (by decide)]
          try rw [ag.2.2 27 (by decide)]
          try rw [ag.2.2 31 (by decide)]
          try rw [ag.2.2 32 (by decide)]
          try rw [ag.2.2 33 (by decide)]
          try rw [ag.2.2 34 (by decide)]
          refine GO.itn h (fun c h => ?_) (fun c h => ?_)
          · skip
            unfold f_X12_sum_b45 at h ⊢
            try rw [ag.2.2 24 (by decide)]
            try rw [ag.2.2 25 (by decide)]
            try rw [ag.2.2 26 (by decide)]
            try rw [ag.2.2 27 (by decide)]
            try rw [ag.2.2 31 (by decide)]
            try rw [ag.2.2 32 (by decide)]
            try rw [ag.2.2 33 (by decide)]
            try rw [ag.2.2 34 (by decide)]
            refine GO.put ag h (fun I J ag h => ?_)
            try rw [ag.2.2 24 (by decide)]
            try rw [ag.2.2 25 (by decide)]
            try rw [ag.2.2 26 (by decide)]
            try rw [ag.2.2 27 (by decide)]
            try rw [ag.2.2 31 (by decide)]
            try rw [ag.2.2 32 (by decide)]
            try rw [ag.2.2 33 (by decide)]
            try rw [ag.2.2 34 (by decide)]
            refine GO.callI (hF 2 (by decide) ag h) (fun r I L J M ag h => ?_)
            try rw [ag.2.2 24 (by decide)]
            try rw [ag.2.2 25 (by decide)]
            try rw [ag.2.2 26 (by decide)]
            try rw [ag.2.2 27 (by decide)]
            try rw [ag.2.2 31 (by decide)]
            try rw [ag.2.2 32 (by decide)]
            try rw [ag.2.2 33 (by decide)]
            try rw [ag.2.2 34 (by decide)]
            refine GO.ite h (fun c h => ?_) (fun c h => ?_)
            · skip
              unfold f_X12_sum_b78 at h ⊢
              try rw [ag.2.2 24 (by decide)]
              try rw [ag.2.2 25 (by decide)]
              try rw [ag.2.2 26 (by decide)]
              try rw [ag.2.2 27 (by decide)]
              try rw [ag.2.2 31 (by decide)]
              try rw [ag.2.2 32 (by decide)]
              try rw [ag.2.2 33 (by decide)]
              try rw [ag.2.2 34 (by decide)]
              have g9 := GO.back (ih ag h)
              exact g9
            · skip
              unfold f_X12_sum_b78 at h ⊢
              try rw [ag.2.2 24 (by decide)]
              try rw [ag.2.2 25 (by decide)]
              try rw [ag.2.2 26 (by decide)]
              try rw [ag.2.2 27 (by decide)]
              try rw [ag.2.2 31 (by decide)]
              try rw [ag.2.2 32 (by decide)]
              try rw [ag.2.2 33 (by decide)]
              try rw [ag.2.2 34 (by decide)]
              have g9 := GO.back (ih ag h)
              exact g9
          · skip
            unfold f_X12_sum_b45 at h ⊢
            try rw [ag.2.2 24 (by decide)]
            try rw [ag.2.2 25 (by decide)]
            try rw [ag.2.2 26 (by decide)]
            try rw [ag.2.2 27 (by decide)]
            try rw [ag.2.2 31 (by decide)]
            try rw [ag.2.2 32 (by decide)]
            try rw [ag.2.2 33 (by decide)]
            try rw [ag.2.2 34 (by decide)]
            refine GO.put ag h (fun I J ag h => ?_)
            try rw [ag.2.2 24 (by decide)]
            try rw [ag.2.2 25 (by decide)]
            try rw [ag.2.2 26 (by decide)]
            try rw [ag.2.2 27 (by decide)]
            try rw [ag.2.2 31 (by decide)]
            try rw [ag.2.2 32 (by decide)]
            try rw [ag.2.2 33 (by decide)]
            try rw [ag.2.2 34 (by decide)]
            refine GO.callI (hF 2 (by decide) ag h) (fun r I L J M ag h => ?_)
            try rw [ag.2.2 24 (by decide)]
            try rw [ag.2.2 25 (by decide)]
            try rw [ag.2.2 26 (by decide)]
            try rw [ag.2.2 27 (by decide)]
            try rw [ag.2.2 31 (by decide)]
            try rw [ag.2.2 32 (by decide)]
            try rw [ag.2.2 33 (by decide)]
            try rw [ag.2.2 34 (by decide)]
            refine GO.ite h (fun c h => ?_) (fun c h => ?_)
            · skip
              unfold f_X12_sum_b78 at h ⊢
              try rw [ag.2.2 24 (by decide)]
              try rw [ag.2.2 25 (by decide)]
              try rw [ag.2.2 26 (by decide)]
              try rw [ag.2.2 27 (by decide)]
              try rw [ag.2.2 31 (by decide)]
              try rw [ag.2.2 32 (by decide)]
              try rw [ag.2.2 33 (by decide)]
              try rw [ag.2.2 34 (by decide)]
              have g9 := GO.back (ih ag h)
              exact g9
            · skip
              unfold f_X12_sum_b78 at h ⊢
              try rw [ag.2.2 24 (by decide)]
              try rw [ag.2.2 25 (by decide)]
              try rw [ag.2.2 26 (by decide)]
              try rw [ag.2.2 27 (by decide)]
              try rw [ag.2.2 31 (by decide)]
              try rw [ag.2.2 32 (by decide)]
              try rw [ag.2.2 33 (by decide)]
              try rw [ag.2.2 34 (by decide)]
              have g9 := GO.back (ih ag h)
              exact g9
set_option maxHeartbeats 4000000 in
set_option maxRecDepth 100000 in
theorem t_X12_sum {F : FTR12} (hF : HT F) {E : Prop} {v0 : Nat} {v1 : Int32} {Z : jZ} {I : jI} {L : jL} {ZJ : jZ} {J : jI} {M : jL} {A : Int32 → jI → jL → Prop} (ag : A1 E v0 Z I L ZJ J M) (h : f_X12_sum F v0 v1 Z I L A) : GO (OKI (fun I L J M => A1 E v0 Z I L ZJ J M) A) (fun Q => f_X12_sum F v0 v1 ZJ J M Q) := by
  unfold f_X12_sum at h ⊢
  try rw [ag.2.2 24 (by decide)]
  try rw [ag.2.2 25 (by decide)]
  try rw [ag.2.2 26 (by decide)]
  try rw [ag.2.2 27 (by decide)]
  try rw [ag.2.2 31 (by decide)]
  try rw [ag.2.2 32 (by decide)]
  try rw [ag.2.2 33 (by decide)]
  try rw [ag.2.2 34 (by decide)]
  refine GO.callI (hF 2 (by decide) ag h) (fun r I L J M ag h => ?_)
  try rw [ag.2.2 24 (by decide)]
  try rw [ag.2.2 25 (by decide)]
  try rw [ag.2.2 26 (by decide)]
  try rw [ag.2.2 27 (by decide)]
  try rw [ag.2.2 31 (by decide)]
  try rw [ag.2.2 32 (by decide)]
  try rw [ag.2.2 33 (by decide)]
  try rw [ag.2.2 34 (by decide)]
  obtain ⟨n9, h⟩ := h
  exact tl_X12_sum_L6 hF n9 ag h
set_option maxHeartbeats 4000000 in
set_option maxRecDepth 100000 in
theorem tl_X12_product_L6 {F : FTR12} (hF : HT F) {E : Prop} {v0 : Nat} {Z ZJ : jZ} {A : Int32 → jI → jL → Prop} : ∀ (n : Nat) {v1 : Int32} {v2 : Int32} {I : jI} {L : jL} {J : jI} {M : jL}, A1 E v0 Z I L ZJ J M → f_X12_product_L6 F Z A n v0 v1 v2 I L → GO (OKI (fun I L J M => A1 E v0 Z I L ZJ J M) A) (fun Q => ∃ m, f_X12_product_L6 F ZJ Q m v0 v1 v2 J M) := by
  intro n
  induction n with
  | zero => intro v1 v2 I L J M ag h; exact h.elim
  | succ n ih =>
    intro v1 v2 I L J M ag h
    refine GO.loop (Bm := fun m Q => f_X12_product_L6 F ZJ Q m v0 v1 v2 J M) (fun _ h => h) ?_
    show GO _ (fun q : (Int32 → jI → jL → Prop) × Nat => f_X12_product_L6 F ZJ q.1 (q.2 + 1) v0 v1 v2 J M)
    unfold f_X12_product_L6 at h ⊢
    try rw [ag.2.2 24 (by decide)]
    try rw [ag.2.2 25 (by decide)]
    try rw [ag.2.2 26 (by decide)]
    try rw [ag.2.2 27 (by decide)]
    try rw [ag.2.2 31 (by decide)]
    try rw [ag.2.2 32 (by decide)]
    try rw [ag.2.2 33 (by decide)]
    try rw [ag.2.2 34 (by decide)]
    refine GO.callP (t_X12_fine ag h) (fun r h => ?_)
    try rw [ag.2.2 24 (by decide)]
    try rw [ag.2.2 25 (by decide)]
    try rw [ag.2.2 26 (by decide)]
    try rw [ag.2.2 27 (by decide)]
    try rw [ag.2.2 31 (by decide)]
    try rw [ag.2.2 32 (by decide)]
    try rw [ag.2.2 33 (by decide)]
    try rw [ag.2.2 34 (by decide)]
    refine GO.ite h (fun c h => ?_) (fun c h => ?_)
    · skip
      exact GO.leafB (B := fun (Q : Int32 → jI → jL → Prop) => Q _ _ _) (GO.leafI ag h)
    · skip
      refine GO.callP (t_X12_here ag h) (fun r h => ?_)
      try rw [ag.2.2 24 (by decide)]
      try rw [ag.2.2 25 (by decide)]
      try rw [ag.2.2 26 (by decide)]
      try rw [ag.2.2 27 (by decide)]
      try rw [ag.2.2 31 (by decide)]
      try rw [ag.2.2 32 (by decide)]
      try rw [ag.2.2 33 (by decide)]
      try rw [ag.2.2 34 (by decide)]
      refine GO.ite h (fun c h => ?_) (fun c h => ?_)
      · skip
        unfold f_X12_product_b31 at h ⊢
        try rw [ag.2.2 24 (by decide)]
        try rw [ag.2.2 25 (by decide)]
        try rw [ag.2.2 26 (by decide)]
        try rw [ag.2.2 27 (by decide)]
        try rw [ag.2.2 31 (by decide)]
        try rw [ag.2.2 32 (by decide)]
        try rw [ag.2.2 33 (by decide)]
        try rw [ag.2.2 34 (by decide)]
        refine GO.callP (t_X12_here ag h) (fun r h => ?_)
        try rw [ag.2.2 24 (by decide)]
        try rw [ag.2.2 25 (by decide)]
        try rw [ag.2.2 26 (by decide)]
        try rw [ag.2.2 27 (by decide)]
        try rw [ag.2.2 31 (by decide)]
        try rw [ag.2.2 32 (by decide)]
        try rw [ag.2.2 33 (by decide)]
        try rw [ag.2.2 34 (by decide)]
        refine GO.itn h (fun c h => ?_) (fun c h => ?_)
        · skip
          unfold f_X12_product_b45 at h ⊢
          try rw [ag.2.2 24 (by decide)]
          try rw [ag.2.2 25 (by decide)]
          try rw [ag.2.2 26 (by decide)]
          try rw [ag.2.2 27 (by decide)]
          try rw [ag.2.2 31 (by decide)]
          try rw [ag.2.2 32 (by decide)]
          try rw [ag.2.2 33 (by decide)]
          try rw [ag.2.2 34 (by decide)]
          refine GO.put ag h (fun I J ag h => ?_)
          try rw [ag.2.2 24 (by decide)]
          try rw [ag.2.2 25 (by decide)]
          try rw [ag.2.2 26 (by decide)]
          try rw [ag.2.2 27 (by decide)]
          try rw [ag.2.2 31 (by decide)]
          try rw [ag.2.2 32 (by decide)]
          try rw [ag.2.2 33 (by decide)]
          try rw [ag.2.2 34 (by decide)]
          refine GO.callI (hF 3 (by decide) ag h) (fun r I L J M ag h => ?_)
          try rw [ag.2.2 24 (by decide)]
          try rw [ag.2.2 25 (by decide)]
          try rw [ag.2.2 26 (by decide)]
          try rw [ag.2.2 27 (by decide)]
          try rw [ag.2.2 31 (by decide)]
          try rw [ag.2.2 32 (by decide)]
          try rw [ag.2.2 33 (by decide)]
          try rw [ag.2.2 34 (by decide)]
          refine GO.ite h (fun c h => ?_) (fun c h => ?_)
          · skip
            refine GO.itn h (fun c h => ?_) (fun c h => ?_)
            · skip
              refine GO.ob h (fun o h => ?_)
              unfold f_X12_product_b87 at h ⊢
              try rw [ag.2.2 24 (by decide)]
              try rw [ag.2.2 25 (by decide)]
              try rw [ag.2.2 26 (by decide)]
              try rw [ag.2.2 27 (by decide)]
              try rw [ag.2.2 31 (by decide)]
              try rw [ag.2.2 32 (by decide)]
              try rw [ag.2.2 33 (by decide)]
              try rw [ag.2.2 34 (by decide)]
              have g9 := GO.back (ih ag h)
              exact g9
            · skip
              unfold f_X12_product_b87 at h ⊢
              try rw [ag.2.2 24 (by decide)]
              try rw [ag.2.2 25 (by decide)]
              try rw [ag.2.2 26 (by decide)]
              try rw [ag.2.2 27 (by decide)]
              try rw [ag.2.2 31 (by decide)]
              try rw [ag.2.2 32 (by decide)]
              try rw [ag.2.2 33 (by decide)]
              try rw [ag.2.2 34 (by decide)]
              have g9 := GO.back (ih ag h)
              exact g9
          · skip
            unfold f_X12_product_b87 at h ⊢
            try rw [ag.2.2 24 (by decide)]
            try rw [ag.2.2 25 (by decide)]
            try rw [ag.2.2 26 (by decide)]
            try rw [ag.2.2 27 (by decide)]
            try rw [ag.2.2 31 (by decide)]
            try rw [ag.2.2 32 (by decide)]
            try rw [ag.2.2 33 (by decide)]
            try rw [ag.2.2 34 (by decide)]
            have g9 := GO.back (ih ag h)
            exact g9
        · skip
          unfold f_X12_product_b45 at h ⊢
          try rw [ag.2.2 24 (by decide)]
          try rw [ag.2.2 25 (by decide)]
          try rw [ag.2.2 26 (by decide)]
          try rw [ag.2.2 27 (by decide)]
          try rw [ag.2.2 31 (by decide)]
          try rw [ag.2.2 32 (by decide)]
          try rw [ag.2.2 33 (by decide)]
          try rw [ag.2.2 34 (by decide)]
          refine GO.put ag h (fun I J ag h => ?_)
          try rw [ag.2.2 24 (by decide)]
          try rw [ag.2.2 25 (by decide)]
          try rw [ag.2.2 26 (by decide)]
          try rw [ag.2.2 27 (by decide)]
          try rw [ag.2.2 31 (by decide)]
          try rw [ag.2.2 32 (by decide)]
          try rw [ag.2.2 33 (by decide)]
          try rw [ag.2.2 34 (by decide)]
          refine GO.callI (hF 3 (by decide) ag h) (fun r I L J M ag h => ?_)
          try rw [ag.2.2 24 (by decide)]
          try rw [ag.2.2 25 (by decide)]
          try rw [ag.2.2 26 (by decide)]
          try rw [ag.2.2 27 (by decide)]
          try rw [ag.2.2 31 (by decide)]
          try rw [ag.2.2 32 (by decide)]
          try rw [ag.2.2 33 (by decide)]
          try rw [ag.2.2 34 (by decide)]
          refine GO.ite h (fun c h => ?_) (fun c h => ?_)
          · skip
            refine GO.itn h (fun c h => ?_) (fun c h => ?_)
            · skip
              refine GO.ob h (fun o h => ?_)
              unfold f_X12_product_b87 at h ⊢
              try rw [ag.2.2 24 (by decide)]
              try rw [ag.2.2 25 (by decide)]
              try rw [ag.2.2 26 (by decide)]
              try rw [ag.2.2 27 (by decide)]
              try rw [ag.2.2 31 (by decide)]
              try rw [ag.2.2 32 (by decide)]
              try rw [ag.2.2 33 (by decide)]
              try rw [ag.2.2 34 (by decide)]
              have g9 := GO.back (ih ag h)
              exact g9
            · skip
              unfold f_X12_product_b87 at h ⊢
              try rw [ag.2.2 24 (by decide)]
              try rw [ag.2.2 25 (by decide)]
              try rw [ag.2.2 26 (by decide)]
              try rw [ag.2.2 27 (by decide)]
              try rw [ag.2.2 31 (by decide)]
              try rw [ag.2.2 32 (by decide)]
              try rw [ag.2.2 33 (by decide)]
              try rw [ag.2.2 34 (by decide)]
              have g9 := GO.back (ih ag h)
              exact g9
          · skip
            unfold f_X12_product_b87 at h ⊢
            try rw [ag.2.2 24 (by decide)]
            try rw [ag.2.2 25 (by decide)]
            try rw [ag.2.2 26 (by decide)]
            try rw [ag.2.2 27 (by decide)]
            try rw [ag.2.2 31 (by decide)]
            try rw [ag.2.2 32 (by decide)]
            try rw [ag.2.2 33 (by decide)]
            try rw [ag.2.2 34 (by decide)]
            have g9 := GO.back (ih ag h)
            exact g9
      · skip
        refine GO.callP (t_X12_here ag h) (fun r h => ?_)
        try rw [ag.2.2 24 (by decide)]
        try rw [ag.2.2 25 (by decide)]
        try rw [ag.2.2 26 (by decide)]
        try rw [ag.2.2 27 (by decide)]
        try rw [ag.2.2 31 (by decide)]
        try rw [ag.2.2 32 (by decide)]
        try rw [ag.2.2 33 (by decide)]
        try rw [ag.2.2 34 (by decide)]
        refine GO.itn h (fun c h => ?_) (fun c h => ?_)
        · skip
          exact GO.leafB (B := fun (Q : Int32 → jI → jL → Prop) => Q _ _ _) (GO.leafI ag h)
        · skip
          unfold f_X12_product_b31 at h ⊢
          try rw [ag.2.2 24 (by decide)]
          try rw [ag.2.2 25 (by decide)]
          try rw [ag.2.2 26 (by decide)]
          try rw [ag.2.2 27 (by decide)]
          try rw [ag.2.2 31 (by decide)]
          try rw [ag.2.2 32 (by decide)]
          try rw [ag.2.2 33 (by decide)]
          try rw [ag.2.2 34 (by decide)]
          refine GO.callP (t_X12_here ag h) (fun r h => ?_)
          try rw [ag.2.2 24 (by decide)]
          try rw [ag.2.2 25 (by decide)]
          try rw [ag.2.2 26 (by decide)]
          try rw [ag.2.2 27 (by decide)]
          try rw [ag.2.2 31 (by decide)]
          try rw [ag.2.2 32 (by decide)]
          try rw [ag.2.2 33 (by decide)]
          try rw [ag.2.2 34 (by decide)]
          refine GO.itn h (fun c h => ?_) (fun c h => ?_)
          · skip
            unfold f_X12_product_b45 at h ⊢
            try rw [ag.2.2 24 (by decide)]
            try rw [ag.2.2 25 (by decide)]
            try rw [ag.2.2 26 (by decide)]
            try rw [ag.2.2 27 (by decide)]
            try rw [ag.2.2 31 (by decide)]
            try rw [ag.2.2 32 (by decide)]
            try rw [ag.2.2 33 (by decide)]
            try rw [ag.2.2 34 (by decide)]
            refine GO.put ag h (fun I J ag h => ?_)
            try rw [ag.2.2 24 (by decide)]
            try rw [ag.2.2 25 (by decide)]
            try rw [ag.2.2 26 (by decide)]
            try rw [ag.2.2 27 (by decide)]
            try rw [ag.2.2 31 (by decide)]
            try rw [ag.2.2 32 (by decide)]
            try rw [ag.2.2 33 (by decide)]
            try rw [ag.2.2 34 (by decide)]
            refine GO.callI (hF 3 (by decide) ag h) (fun r I L J M ag h => ?_)
            try rw [ag.2.2 24 (by decide)]
            try rw [ag.2.2 25 (by decide)]
            try rw [ag.2.2 26 (by decide)]
            try rw [ag.2.2 27 (by decide)]
            try rw [ag.2.2 31 (by decide)]
            try rw [ag.2.2 32 (by decide)]
            try rw [ag.2.2 33 (by decide)]
            try rw [ag.2.2 34 (by decide)]
            refine GO.ite h (fun c h => ?_) (fun c h => ?_)
            · skip
              refine GO.itn h (fun c h => ?_) (fun c h => ?_)
              · skip
                refine GO.ob h (fun o h => ?_)
                unfold f_X12_product_b87 at h ⊢
                try rw [ag.2.2 24 (by decide)]
                try rw [ag.2.2 25 (by decide)]
                try rw [ag.2.2 26 (by decide)]
                try rw [ag.2.2 27 (by decide)]
                try rw [ag.2.2 31 (by decide)]
                try rw [ag.2.2 32 (by decide)]
                try rw [ag.2.2 33 (by decide)]
                try rw [ag.2.2 34 (by decide)]
                have g9 := GO.back (ih ag h)
                exact g9
              · skip
                unfold f_X12_product_b87 at h ⊢
                try rw [ag.2.2 24 (by decide)]
                try rw [ag.2.2 25 (by decide)]
                try rw [ag.2.2 26 (by decide)]
                try rw [ag.2.2 27 (by decide)]
                try rw [ag.2.2 31 (by decide)]
                try rw [ag.2.2 32 (by decide)]
                try rw [ag.2.2 33 (by decide)]
                try rw [ag.2.2 34 (by decide)]
                have g9 := GO.back (ih ag h)
                exact g9
            · skip
              unfold f_X12_product_b87 at h ⊢
              try rw [ag.2.2 24 (by decide)]
              try rw [ag.2.2 25 (by decide)]
              try rw [ag.2.2 26 (by decide)]
              try rw [ag.2.2 27 (by decide)]
              try rw [ag.2.2 31 (by decide)]
              try rw [ag.2.2 32 (by decide)]
              try rw [ag.2.2 33 (by decide)]
              try rw [ag.2.2 34 (by decide)]
              have g9 := GO.back (ih ag h)
              exact g9
          · skip
            unfold f_X12_product_b45 at h ⊢
            try rw [ag.2.2 24 (by decide)]
            try rw [ag.2.2 25 (by decide)]
            try rw [ag.2.2 26 (by decide)]
            try rw [ag.2.2 27 (by decide)]
            try rw [ag.2.2 31 (by decide)]
            try rw [ag.2.2 32 (by decide)]
            try rw [ag.2.2 33 (by decide)]
            try rw [ag.2.2 34 (by decide)]
            refine GO.put ag h (fun I J ag h => ?_)
            try rw [ag.2.2 24 (by decide)]
            try rw [ag.2.2 25 (by decide)]
            try rw [ag.2.2 26 (by decide)]
            try rw [ag.2.2 27 (by decide)]
            try rw [ag.2.2 31 (by decide)]
            try rw [ag.2.2 32 (by decide)]
            try rw [ag.2.2 33 (by decide)]
            try rw [ag.2.2 34 (by decide)]
            refine GO.callI (hF 3 (by decide) ag h) (fun r I L J M ag h => ?_)
            try rw [ag.2.2 24 (by decide)]
            try rw [ag.2.2 25 (by decide)]
            try rw [ag.2.2 26 (by decide)]
            try rw [ag.2.2 27 (by decide)]
            try rw [ag.2.2 31 (by decide)]
            try rw [ag.2.2 32 (by decide)]
            try rw [ag.2.2 33 (by decide)]
            try rw [ag.2.2 34 (by decide)]
            refine GO.ite h (fun c h => ?_) (fun c h => ?_)
            · skip
              refine GO.itn h (fun c h => ?_) (fun c h => ?_)
              · skip
                refine GO.ob h (fun o h => ?_)
                unfold f_X12_product_b87 at h ⊢
                try rw [ag.2.2 24 (by decide)]
                try rw [ag.2.2 25 (by decide)]
                try rw [ag.2.2 26 (by decide)]
                try rw [ag.2.2 27 (by decide)]
                try rw [ag.2.2 31 (by decide)]
                try rw [ag.2.2 32 (by decide)]
                try rw [ag.2.2 33 (by decide)]
                try rw [ag.2.2 34 (by decide)]
                have g9 := GO.back (ih ag h)
                exact g9
              · skip
                unfold f_X12_product_b87 at h ⊢
                try rw [ag.2.2 24 (by decide)]
                try rw [ag.2.2 25 (by decide)]
                try rw [ag.2.2 26 (by decide)]
                try rw [ag.2.2 27 (by decide)]
                try rw [ag.2.2 31 (by decide)]
                try rw [ag.2.2 32 (by decide)]
                try rw [ag.2.2 33 (by decide)]
                try rw [ag.2.2 34 (by decide)]
                have g9 := GO.back (ih ag h)
                exact g9
            · skip
              unfold f_X12_product_b87 at h ⊢
              try rw [ag.2.2 24 (by decide)]
              try rw [ag.2.2 25 (by decide)]
              try rw [ag.2.2 26 (by decide)]
              try rw [ag.2.2 27 (by decide)]
              try rw [ag.2.2 31 (by decide)]
              try rw [ag.2.2 32 (by decide)]
              try rw [ag.2.2 33 (by decide)]
              try rw [ag.2.2 34 (by decide)]
              have g9 := GO.back (ih ag h)
              exact g9
set_option maxHeartbeats 4000000 in
set_option maxRecDepth 100000 in
theorem t_X12_product {F : FTR12} (hF : HT F) {E : Prop} {v0 : Nat} {v1 : Int32} {Z : jZ} {I : jI} {L : jL} {ZJ : jZ} {J : jI} {M : jL} {A : Int32 → jI → jL → Prop} (ag : A1 E v0 Z I L ZJ J M) (h : f_X12_product F v0 v1 Z I L A) : GO (OKI (fun I L J M => A1 E v0 Z I L ZJ J M) A) (fun Q => f_X12_product F v0 v1 ZJ J M Q) := by
  unfold f_X12_product at h ⊢
  try rw [ag.2.2 24 (by decide)]
  try rw [ag.2.2 25 (by decide)]
  try rw [ag.2.2 26 (by decide)]
  try rw [ag.2.2 27 (by decide)]
  try rw [ag.2.2 31 (by decide)]
  try rw [ag.2.2 32 (by decide)]
  try rw [ag.2.2 33 (by decide)]
  try rw [ag.2.2 34 (by decide)]
  refine GO.callI (hF 3 (by decide) ag h) (fun r I L J M ag h => ?_)
  try rw [ag.2.2 24 (by decide)]
  try rw [ag.2.2 25 (by decide)]
  try rw [ag.2.2 26 (by decide)]
  try rw [ag.2.2 27 (by decide)]
  try rw [ag.2.2 31 (by decide)]
  try rw [ag.2.2 32 (by decide)]
  try rw [ag.2.2 33 (by decide)]
  try rw [ag.2.2 34 (by decide)]
  obtain ⟨n9, h⟩ := h
  exact tl_X12_product_L6 hF n9 ag h
set_option maxHeartbeats 4000000 in
set_option maxRecDepth 100000 in
theorem t_X12_thing {F : FTR12} (hF : HT F) {E : Prop} {v0 : Nat} {v1 : Int32} {Z : jZ} {I : jI} {L : jL} {ZJ : jZ} {J : jI} {M : jL} {A : Int32 → jI → jL → Prop} (ag : A1 E v0 Z I L ZJ J M) (h : f_X12_thing F v0 v1 Z I L A) : GO (OKI (fun I L J M => A1 E v0 Z I L ZJ J M) A) (fun Q => f_X12_thing F v0 v1 ZJ J M Q) := by
  unfold f_X12_thing at h ⊢
  try rw [ag.2.2 24 (by decide)]
  try rw [ag.2.2 25 (by decide)]
  try rw [ag.2.2 26 (by decide)]
  try rw [ag.2.2 27 (by decide)]
  try rw [ag.2.2 31 (by decide)]
  try rw [ag.2.2 32 (by decide)]
  try rw [ag.2.2 33 (by decide)]
  try rw [ag.2.2 34 (by decide)]
  refine GO.callI (t_X12_passes ag h) (fun r I L J M ag h => ?_)
  try rw [ag.2.2 24 (by decide)]
  try rw [ag.2.2 25 (by decide)]
  try rw [ag.2.2 26 (by decide)]
  try rw [ag.2.2 27 (by decide)]
  try rw [ag.2.2 31 (by decide)]
  try rw [ag.2.2 32 (by decide)]
  try rw [ag.2.2 33 (by decide)]
  try rw [ag.2.2 34 (by decide)]
  refine GO.ite h (fun c h => ?_) (fun c h => ?_)
  · skip
    refine GO.callP (t_X12_fine ag h) (fun r h => ?_)
    try rw [ag.2.2 24 (by decide)]
    try rw [ag.2.2 25 (by decide)]
    try rw [ag.2.2 26 (by decide)]
    try rw [ag.2.2 27 (by decide)]
    try rw [ag.2.2 31 (by decide)]
    try rw [ag.2.2 32 (by decide)]
    try rw [ag.2.2 33 (by decide)]
    try rw [ag.2.2 34 (by decide)]
    refine GO.itn h (fun c h => ?_) (fun c h => ?_)
    · skip
      refine GO.callP (t_X12_here ag h) (fun r h => ?_)
      try rw [ag.2.2 24 (by decide)]
      try rw [ag.2.2 25 (by decide)]
      try rw [ag.2.2 26 (by decide)]
      try rw [ag.2.2 27 (by decide)]
      try rw [ag.2.2 31 (by decide)]
      try rw [ag.2.2 32 (by decide)]
      try rw [ag.2.2 33 (by decide)]
      try rw [ag.2.2 34 (by decide)]
      refine GO.itn h (fun c h => ?_) (fun c h => ?_)
      · skip
        unfold f_X12_thing_b67 at h ⊢
        try rw [ag.2.2 24 (by decide)]
        try rw [ag.2.2 25 (by decide)]
        try rw [ag.2.2 26 (by decide)]
        try rw [ag.2.2 27 (by decide)]
        try rw [ag.2.2 31 (by decide)]
        try rw [ag.2.2 32 (by decide)]
        try rw [ag.2.2 33 (by decide)]
        try rw [ag.2.2 34 (by decide)]
        refine GO.callP (t_X12_in ag h) (fun r h => ?_)
        try rw [ag.2.2 24 (by decide)]
        try rw [ag.2.2 25 (by decide)]
        try rw [ag.2.2 26 (by decide)]
        try rw [ag.2.2 27 (by decide)]
        try rw [ag.2.2 31 (by decide)]
        try rw [ag.2.2 32 (by decide)]
        try rw [ag.2.2 33 (by decide)]
        try rw [ag.2.2 34 (by decide)]
        refine GO.ite h (fun c h => ?_) (fun c h => ?_)
        · skip
          refine GO.ite h (fun c h => ?_) (fun c h => ?_)
          · skip
            unfold f_X12_thing_b140 at h ⊢
            try rw [ag.2.2 24 (by decide)]
            try rw [ag.2.2 25 (by decide)]
            try rw [ag.2.2 26 (by decide)]
            try rw [ag.2.2 27 (by decide)]
            try rw [ag.2.2 31 (by decide)]
            try rw [ag.2.2 32 (by decide)]
            try rw [ag.2.2 33 (by decide)]
            try rw [ag.2.2 34 (by decide)]
            refine GO.put ag h (fun I J ag h => ?_)
            try rw [ag.2.2 24 (by decide)]
            try rw [ag.2.2 25 (by decide)]
            try rw [ag.2.2 26 (by decide)]
            try rw [ag.2.2 27 (by decide)]
            try rw [ag.2.2 31 (by decide)]
            try rw [ag.2.2 32 (by decide)]
            try rw [ag.2.2 33 (by decide)]
            try rw [ag.2.2 34 (by decide)]
            refine GO.itn h (fun c h => ?_) (fun c h => ?_)
            · skip
              refine GO.callP (t_X12_letter ag h) (fun r h => ?_)
              try rw [ag.2.2 24 (by decide)]
              try rw [ag.2.2 25 (by decide)]
              try rw [ag.2.2 26 (by decide)]
              try rw [ag.2.2 27 (by decide)]
              try rw [ag.2.2 31 (by decide)]
              try rw [ag.2.2 32 (by decide)]
              try rw [ag.2.2 33 (by decide)]
              try rw [ag.2.2 34 (by decide)]
              exact GO.leafI ag h
            · skip
              exact GO.leafI ag h
          · skip
            refine GO.ite h (fun c h => ?_) (fun c h => ?_)
            · skip
              unfold f_X12_thing_b140 at h ⊢
              try rw [ag.2.2 24 (by decide)]
              try rw [ag.2.2 25 (by decide)]
              try rw [ag.2.2 26 (by decide)]
              try rw [ag.2.2 27 (by decide)]
              try rw [ag.2.2 31 (by decide)]
              try rw [ag.2.2 32 (by decide)]
              try rw [ag.2.2 33 (by decide)]
              try rw [ag.2.2 34 (by decide)]
              refine GO.put ag h (fun I J ag h => ?_)
              try rw [ag.2.2 24 (by decide)]
              try rw [ag.2.2 25 (by decide)]
              try rw [ag.2.2 26 (by decide)]
              try rw [ag.2.2 27 (by decide)]
              try rw [ag.2.2 31 (by decide)]
              try rw [ag.2.2 32 (by decide)]
              try rw [ag.2.2 33 (by decide)]
              try rw [ag.2.2 34 (by decide)]
              refine GO.itn h (fun c h => ?_) (fun c h => ?_)
              · skip
                refine GO.callP (t_X12_letter ag h) (fun r h => ?_)
                try rw [ag.2.2 24 (by decide)]
                try rw [ag.2.2 25 (by decide)]
                try rw [ag.2.2 26 (by decide)]
                try rw [ag.2.2 27 (by decide)]
                try rw [ag.2.2 31 (by decide)]
                try rw [ag.2.2 32 (by decide)]
                try rw [ag.2.2 33 (by decide)]
                try rw [ag.2.2 34 (by decide)]
                exact GO.leafI ag h
              · skip
                exact GO.leafI ag h
            · skip
              refine GO.ite h (fun c h => ?_) (fun c h => ?_)
              · skip
                unfold f_X12_thing_b140 at h ⊢
                try rw [ag.2.2 24 (by decide)]
                try rw [ag.2.2 25 (by decide)]
                try rw [ag.2.2 26 (by decide)]
                try rw [ag.2.2 27 (by decide)]
                try rw [ag.2.2 31 (by decide)]
                try rw [ag.2.2 32 (by decide)]
                try rw [ag.2.2 33 (by decide)]
                try rw [ag.2.2 34 (by decide)]
                refine GO.put ag h (fun I J ag h => ?_)
                try rw [ag.2.2 24 (by decide)]
                try rw [ag.2.2 25 (by decide)]
                try rw [ag.2.2 26 (by decide)]
                try rw [ag.2.2 27 (by decide)]
                try rw [ag.2.2 31 (by decide)]
                try rw [ag.2.2 32 (by decide)]
                try rw [ag.2.2 33 (by decide)]
                try rw [ag.2.2 34 (by decide)]
                refine GO.itn h (fun c h => ?_) (fun c h => ?_)
                · skip
                  refine GO.callP (t_X12_letter ag h) (fun r h => ?_)
                  try rw [ag.2.2 24 (by decide)]
                  try rw [ag.2.2 25 (by decide)]
                  try rw [ag.2.2 26 (by decide)]
                  try rw [ag.2.2 27 (by decide)]
                  try rw [ag.2.2 31 (by decide)]
                  try rw [ag.2.2 32 (by decide)]
                  try rw [ag.2.2 33 (by decide)]
                  try rw [ag.2.2 34 (by decide)]
                  exact GO.leafI ag h
                · skip
                  exact GO.leafI ag h
              · skip
                refine GO.ite h (fun c h => ?_) (fun c h => ?_)
                · skip
                  unfold f_X12_thing_b140 at h ⊢
                  try rw [ag.2.2 24 (by decide)]
                  try rw [ag.2.2 25 (by decide)]
                  try rw [ag.2.2 26 (by decide)]
                  try rw [ag.2.2 27 (by decide)]
                  try rw [ag.2.2 31 (by decide)]
                  try rw [ag.2.2 32 (by decide)]
                  try rw [ag.2.2 33 (by decide)]
                  try rw [ag.2.2 34 (by decide)]
                  refine GO.put ag h (fun I J ag h => ?_)
                  try rw [ag.2.2 24 (by decide)]
                  try rw [ag.2.2 25 (by decide)]
                  try rw [ag.2.2 26 (by decide)]
                  try rw [ag.2.2 27 (by decide)]
                  try rw [ag.2.2 31 (by decide)]
                  try rw [ag.2.2 32 (by decide)]
                  try rw [ag.2.2 33 (by decide)]
                  try rw [ag.2.2 34 (by decide)]
                  refine GO.itn h (fun c h => ?_) (fun c h => ?_)
                  · skip
                    refine GO.callP (t_X12_letter ag h) (fun r h => ?_)
                    try rw [ag.2.2 24 (by decide)]
                    try rw [ag.2.2 25 (by decide)]
                    try rw [ag.2.2 26 (by decide)]
                    try rw [ag.2.2 27 (by decide)]
                    try rw [ag.2.2 31 (by decide)]
                    try rw [ag.2.2 32 (by decide)]
                    try rw [ag.2.2 33 (by decide)]
                    try rw [ag.2.2 34 (by decide)]
                    exact GO.leafI ag h
                  · skip
                    exact GO.leafI ag h
                · skip
                  refine GO.ite h (fun c h => ?_) (fun c h => ?_)
                  · skip
                    unfold f_X12_thing_b140 at h ⊢
                    try rw [ag.2.2 24 (by decide)]
                    try rw [ag.2.2 25 (by decide)]
                    try rw [ag.2.2 26 (by decide)]
                    try rw [ag.2.2 27 (by decide)]
                    try rw [ag.2.2 31 (by decide)]
                    try rw [ag.2.2 32 (by decide)]
                    try rw [ag.2.2 33 (by decide)]
                    try rw [ag.2.2 34 (by decide)]
                    refine GO.put ag h (fun I J ag h => ?_)
                    try rw [ag.2.2 24 (by decide)]
                    try rw [ag.2.2 25 (by decide)]
                    try rw [ag.2.2 26 (by decide)]
                    try rw [ag.2.2 27 (by decide)]
                    try rw [ag.2.2 31 (by decide)]
                    try rw [ag.2.2 32 (by decide)]
                    try rw [ag.2.2 33 (by decide)]
                    try rw [ag.2.2 34 (by decide)]
                    refine GO.itn h (fun c h => ?_) (fun c h => ?_)
                    · skip
                      refine GO.callP (t_X12_letter ag h) (fun r h => ?_)
                      try rw [ag.2.2 24 (by decide)]
                      try rw [ag.2.2 25 (by decide)]
                      try rw [ag.2.2 26 (by decide)]
                      try rw [ag.2.2 27 (by decide)]
                      try rw [ag.2.2 31 (by decide)]
                      try rw [ag.2.2 32 (by decide)]
                      try rw [ag.2.2 33 (by decide)]
                      try rw [ag.2.2 34 (by decide)]
                      exact GO.leafI ag h
                    · skip
                      exact GO.leafI ag h
                  · skip
                    refine GO.ite h (fun c h => ?_) (fun c h => ?_)
                    · skip
                      unfold f_X12_thing_b140 at h ⊢
                      try rw [ag.2.2 24 (by decide)]
                      try rw [ag.2.2 25 (by decide)]
                      try rw [ag.2.2 26 (by decide)]
                      try rw [ag.2.2 27 (by decide)]
                      try rw [ag.2.2 31 (by decide)]
                      try rw [ag.2.2 32 (by decide)]
                      try rw [ag.2.2 33 (by decide)]
                      try rw [ag.2.2 34 (by decide)]
                      refine GO.put ag h (fun I J ag h => ?_)
                      try rw [ag.2.2 24 (by decide)]
                      try rw [ag.2.2 25 (by decide)]
                      try rw [ag.2.2 26 (by decide)]
                      try rw [ag.2.2 27 (by decide)]
                      try rw [ag.2.2 31 (by decide)]
                      try rw [ag.2.2 32 (by decide)]
                      try rw [ag.2.2 33 (by decide)]
                      try rw [ag.2.2 34 (by decide)]
                      refine GO.itn h (fun c h => ?_) (fun c h => ?_)
                      · skip
                        refine GO.callP (t_X12_letter ag h) (fun r h => ?_)
                        try rw [ag.2.2 24 (by decide)]
                        try rw [ag.2.2 25 (by decide)]
                        try rw [ag.2.2 26 (by decide)]
                        try rw [ag.2.2 27 (by decide)]
                        try rw [ag.2.2 31 (by decide)]
                        try rw [ag.2.2 32 (by decide)]
                        try rw [ag.2.2 33 (by decide)]
                        try rw [ag.2.2 34 (by decide)]
                        exact GO.leafI ag h
                      · skip
                        exact GO.leafI ag h
                    · skip
                      refine GO.ite h (fun c h => ?_) (fun c h => ?_)
                      · skip
                        unfold f_X12_thing_b140 at h ⊢
                        try rw [ag.2.2 24 (by decide)]
                        try rw [ag.2.2 25 (by decide)]
                        try rw [ag.2.2 26 (by decide)]
                        try rw [ag.2.2 27 (by decide)]
                        try rw [ag.2.2 31 (by decide)]
                        try rw [ag.2.2 32 (by decide)]
                        try rw [ag.2.2 33 (by decide)]
                        try rw [ag.2.2 34 (by decide)]
                        refine GO.put ag h (fun I J ag h => ?_)
                        try rw [ag.2.2 24 (by decide)]
                        try rw [ag.2.2 25 (by decide)]
                        try rw [ag.2.2 26 (by decide)]
                        try rw [ag.2.2 27 (by decide)]
                        try rw [ag.2.2 31 (by decide)]
                        try rw [ag.2.2 32 (by decide)]
                        try rw [ag.2.2 33 (by decide)]
                        try rw [ag.2.2 34 (by decide)]
                        refine GO.itn h (fun c h => ?_) (fun c h => ?_)
                        · skip
                          refine GO.callP (t_X12_letter ag h) (fun r h => ?_)
                          try rw [ag.2.2 24 (by decide)]
                          try rw [ag.2.2 25 (by decide)]
                          try rw [ag.2.2 26 (by decide)]
                          try rw [ag.2.2 27 (by decide)]
                          try rw [ag.2.2 31 (by decide)]
                          try rw [ag.2.2 32 (by decide)]
                          try rw [ag.2.2 33 (by decide)]
                          try rw [ag.2.2 34 (by decide)]
                          exact GO.leafI ag h
                        · skip
                          exact GO.leafI ag h
                      · skip
                        refine GO.callV (t_X12_fault ag h) (fun I L J M ag h => ?_)
                        try rw [ag.2.2 24 (by decide)]
                        try rw [ag.2.2 25 (by decide)]
                        try rw [ag.2.2 26 (by decide)]
                        try rw [ag.2.2 27 (by decide)]
                        try rw [ag.2.2 31 (by decide)]
                        try rw [ag.2.2 32 (by decide)]
                        try rw [ag.2.2 33 (by decide)]
                        try rw [ag.2.2 34 (by decide)]
                        exact GO.leafI ag h
        · skip
          refine GO.callI (t_X12_number ag h) (fun r I L J M ag h => ?_)
          try rw [ag.2.2 24 (by decide)]
          try rw [ag.2.2 25 (by decide)]
          try rw [ag.2.2 26 (by decide)]
          try rw [ag.2.2 27 (by decide)]
          try rw [ag.2.2 31 (by decide)]
          try rw [ag.2.2 32 (by decide)]
          try rw [ag.2.2 33 (by decide)]
          try rw [ag.2.2 34 (by decide)]
          exact GO.leafI ag h
      · skip
        refine GO.ite h (fun c h => ?_) (fun c h => ?_)
        · skip
          unfold f_X12_thing_b67 at h ⊢
          try rw [ag.2.2 24 (by decide)]
          try rw [ag.2.2 25 (by decide)]
          try rw [ag.2.2 26 (by decide)]
          try rw [ag.2.2 27 (by decide)]
          try rw [ag.2.2 31 (by decide)]
          try rw [ag.2.2 32 (by decide)]
          try rw [ag.2.2 33 (by decide)]
          try rw [ag.2.2 34 (by decide)]
          refine GO.callP (t_X12_in ag h) (fun r h => ?_)
          try rw [ag.2.2 24 (by decide)]
          try rw [ag.2.2 25 (by decide)]
          try rw [ag.2.2 26 (by decide)]
          try rw [ag.2.2 27 (by decide)]
          try rw [ag.2.2 31 (by decide)]
          try rw [ag.2.2 32 (by decide)]
          try rw [ag.2.2 33 (by decide)]
          try rw [ag.2.2 34 (by decide)]
          refine GO.ite h (fun c h => ?_) (fun c h => ?_)
          · skip
            refine GO.ite h (fun c h => ?_) (fun c h => ?_)
            · skip
              unfold f_X12_thing_b140 at h ⊢
              try rw [ag.2.2 24 (by decide)]
              try rw [ag.2.2 25 (by decide)]
              try rw [ag.2.2 26 (by decide)]
              try rw [ag.2.2 27 (by decide)]
              try rw [ag.2.2 31 (by decide)]
              try rw [ag.2.2 32 (by decide)]
              try rw [ag.2.2 33 (by decide)]
              try rw [ag.2.2 34 (by decide)]
              refine GO.put ag h (fun I J ag h => ?_)
              try rw [ag.2.2 24 (by decide)]
              try rw [ag.2.2 25 (by decide)]
              try rw [ag.2.2 26 (by decide)]
              try rw [ag.2.2 27 (by decide)]
              try rw [ag.2.2 31 (by decide)]
              try rw [ag.2.2 32 (by decide)]
              try rw [ag.2.2 33 (by decide)]
              try rw [ag.2.2 34 (by decide)]
              refine GO.itn h (fun c h => ?_) (fun c h => ?_)
              · skip
                refine GO.callP (t_X12_letter ag h) (fun r h => ?_)
                try rw [ag.2.2 24 (by decide)]
                try rw [ag.2.2 25 (by decide)]
                try rw [ag.2.2 26 (by decide)]
                try rw [ag.2.2 27 (by decide)]
                try rw [ag.2.2 31 (by decide)]
                try rw [ag.2.2 32 (by decide)]
                try rw [ag.2.2 33 (by decide)]
                try rw [ag.2.2 34 (by decide)]
                exact GO.leafI ag h
              · skip
                exact GO.leafI ag h
            · skip
              refine GO.ite h (fun c h => ?_) (fun c h => ?_)
              · skip
                unfold f_X12_thing_b140 at h ⊢
                try rw [ag.2.2 24 (by decide)]
                try rw [ag.2.2 25 (by decide)]
                try rw [ag.2.2 26 (by decide)]
                try rw [ag.2.2 27 (by decide)]
                try rw [ag.2.2 31 (by decide)]
                try rw [ag.2.2 32 (by decide)]
                try rw [ag.2.2 33 (by decide)]
                try rw [ag.2.2 34 (by decide)]
                refine GO.put ag h (fun I J ag h => ?_)
                try rw [ag.2.2 24 (by decide)]
                try rw [ag.2.2 25 (by decide)]
                try rw [ag.2.2 26 (by decide)]
                try rw [ag.2.2 27 (by decide)]
                try rw [ag.2.2 31 (by decide)]
                try rw [ag.2.2 32 (by decide)]
                try rw [ag.2.2 33 (by decide)]
                try rw [ag.2.2 34 (by decide)]
                refine GO.itn h (fun c h => ?_) (fun c h => ?_)
                · skip
                  refine GO.callP (t_X12_letter ag h) (fun r h => ?_)
                  try rw [ag.2.2 24 (by decide)]
                  try rw [ag.2.2 25 (by decide)]
                  try rw [ag.2.2 26 (by decide)]
                  try rw [ag.2.2 27 (by decide)]
                  try rw [ag.2.2 31 (by decide)]
                  try rw [ag.2.2 32 (by decide)]
                  try rw [ag.2.2 33 (by decide)]
                  try rw [ag.2.2 34 (by decide)]
                  exact GO.leafI ag h
                · skip
                  exact GO.leafI ag h
              · skip
                refine GO.ite h (fun c h => ?_) (fun c h => ?_)
                · skip
                  unfold f_X12_thing_b140 at h ⊢
                  try rw [ag.2.2 24 (by decide)]
                  try rw [ag.2.2 25 (by decide)]
                  try rw [ag.2.2 26 (by decide)]
                  try rw [ag.2.2 27 (by decide)]
                  try rw [ag.2.2 31 (by decide)]
                  try rw [ag.2.2 32 (by decide)]
                  try rw [ag.2.2 33 (by decide)]
                  try rw [ag.2.2 34 (by decide)]
                  refine GO.put ag h (fun I J ag h => ?_)
                  try rw [ag.2.2 24 (by decide)]
                  try rw [ag.2.2 25 (by decide)]
                  try rw [ag.2.2 26 (by decide)]
                  try rw [ag.2.2 27 (by decide)]
                  try rw [ag.2.2 31 (by decide)]
                  try rw [ag.2.2 32 (by decide)]
                  try rw [ag.2.2 33 (by decide)]
                  try rw [ag.2.2 34 (by decide)]
                  refine GO.itn h (fun c h => ?_) (fun c h => ?_)
                  · skip
                    refine GO.callP (t_X12_letter ag h) (fun r h => ?_)
                    try rw [ag.2.2 24 (by decide)]
                    try rw [ag.2.2 25 (by decide)]
                    try rw [ag.2.2 26 (by decide)]
                    try rw [ag.2.2 27 (by decide)]
                    try rw [ag.2.2 31 (by decide)]
                    try rw [ag.2.2 32 (by decide)]
                    try rw [ag.2.2 33 (by decide)]
                    try rw [ag.2.2 34 (by decide)]
                    exact GO.leafI ag h
                  · skip
                    exact GO.leafI ag h
                · skip
                  refine GO.ite h (fun c h => ?_) (fun c h => ?_)
                  · skip
                    unfold f_X12_thing_b140 at h ⊢
                    try rw [ag.2.2 24 (by decide)]
                    try rw [ag.2.2 25 (by decide)]
                    try rw [ag.2.2 26 (by decide)]
                    try rw [ag.2.2 27 (by decide)]
                    try rw [ag.2.2 31 (by decide)]
                    try rw [ag.2.2 32 (by decide)]
                    try rw [ag.2.2 33 (by decide)]
                    try rw [ag.2.2 34 (by decide)]
                    refine GO.put ag h (fun I J ag h => ?_)
                    try rw [ag.2.2 24 (by decide)]
                    try rw [ag.2.2 25 (by decide)]
                    try rw [ag.2.2 26 (by decide)]
                    try rw [ag.2.2 27 (by decide)]
                    try rw [ag.2.2 31 (by decide)]
                    try rw [ag.2.2 32 (by decide)]
                    try rw [ag.2.2 33 (by decide)]
                    try rw [ag.2.2 34 (by decide)]
                    refine GO.itn h (fun c h => ?_) (fun c h => ?_)
                    · skip
                      refine GO.callP (t_X12_letter ag h) (fun r h => ?_)
                      try rw [ag.2.2 24 (by decide)]
                      try rw [ag.2.2 25 (by decide)]
                      try rw [ag.2.2 26 (by decide)]
                      try rw [ag.2.2 27 (by decide)]
                      try rw [ag.2.2 31 (by decide)]
                      try rw [ag.2.2 32 (by decide)]
                      try rw [ag.2.2 33 (by decide)]
                      try rw [ag.2.2 34 (by decide)]
                      exact GO.leafI ag h
                    · skip
                      exact GO.leafI ag h
                  · skip
                    refine GO.ite h (fun c h => ?_) (fun c h => ?_)
                    · skip
                      unfold f_X12_thing_b140 at h ⊢
                      try rw [ag.2.2 24 (by decide)]
                      try rw [ag.2.2 25 (by decide)]
                      try rw [ag.2.2 26 (by decide)]
                      try rw [ag.2.2 27 (by decide)]
                      try rw [ag.2.2 31 (by decide)]
                      try rw [ag.2.2 32 (by decide)]
                      try rw [ag.2.2 33 (by decide)]
                      try rw [ag.2.2 34 (by decide)]
                      refine GO.put ag h (fun I J ag h => ?_)
                      try rw [ag.2.2 24 (by decide)]
                      try rw [ag.2.2 25 (by decide)]
                      try rw [ag.2.2 26 (by decide)]
                      try rw [ag.2.2 27 (by decide)]
                      try rw [ag.2.2 31 (by decide)]
                      try rw [ag.2.2 32 (by decide)]
                      try rw [ag.2.2 33 (by decide)]
                      try rw [ag.2.2 34 (by decide)]
                      refine GO.itn h (fun c h => ?_) (fun c h => ?_)
                      · skip
                        refine GO.callP (t_X12_letter ag h) (fun r h => ?_)
                        try rw [ag.2.2 24 (by decide)]
                        try rw [ag.2.2 25 (by decide)]
                        try rw [ag.2.2 26 (by decide)]
                        try rw [ag.2.2 27 (by decide)]
                        try rw [ag.2.2 31 (by decide)]
                        try rw [ag.2.2 32 (by decide)]
                        try rw [ag.2.2 33 (by decide)]
                        try rw [ag.2.2 34 (by decide)]
                        exact GO.leafI ag h
                      · skip
                        exact GO.leafI ag h
                    · skip
                      refine GO.ite h (fun c h => ?_) (fun c h => ?_)
                      · skip
                        unfold f_X12_thing_b140 at h ⊢
                        try rw [ag.2.2 24 (by decide)]
                        try rw [ag.2.2 25 (by decide)]
                        try rw [ag.2.2 26 (by decide)]
                        try rw [ag.2.2 27 (by decide)]
                        try rw [ag.2.2 31 (by decide)]
                        try rw [ag.2.2 32 (by decide)]
                        try rw [ag.2.2 33 (by decide)]
                        try rw [ag.2.2 34 (by decide)]
                        refine GO.put ag h (fun I J ag h => ?_)
                        try rw [ag.2.2 24 (by decide)]
                        try rw [ag.2.2 25 (by decide)]
                        try rw [ag.2.2 26 (by decide)]
                        try rw [ag.2.2 27 (by decide)]
                        try rw [ag.2.2 31 (by decide)]
                        try rw [ag.2.2 32 (by decide)]
                        try rw [ag.2.2 33 (by decide)]
                        try rw [ag.2.2 34 (by decide)]
                        refine GO.itn h (fun c h => ?_) (fun c h => ?_)
                        · skip
                          refine GO.callP (t_X12_letter ag h) (fun r h => ?_)
                          try rw [ag.2.2 24 (by decide)]
                          try rw [ag.2.2 25 (by decide)]
                          try rw [ag.2.2 26 (by decide)]
                          try rw [ag.2.2 27 (by decide)]
                          try rw [ag.2.2 31 (by decide)]
                          try rw [ag.2.2 32 (by decide)]
                          try rw [ag.2.2 33 (by decide)]
                          try rw [ag.2.2 34 (by decide)]
                          exact GO.leafI ag h
                        · skip
                          exact GO.leafI ag h
                      · skip
                        refine GO.ite h (fun c h => ?_) (fun c h => ?_)
                        · skip
                          unfold f_X12_thing_b140 at h ⊢
                          try rw [ag.2.2 24 (by decide)]
                          try rw [ag.2.2 25 (by decide)]
                          try rw [ag.2.2 26 (by decide)]
                          try rw [ag.2.2 27 (by decide)]
                          try rw [ag.2.2 31 (by decide)]
                          try rw [ag.2.2 32 (by decide)]
                          try rw [ag.2.2 33 (by decide)]
                          try rw [ag.2.2 34 (by decide)]
                          refine GO.put ag h (fun I J ag h => ?_)
                          try rw [ag.2.2 24 (by decide)]
                          try rw [ag.2.2 25 (by decide)]
                          try rw [ag.2.2 26 (by decide)]
                          try rw [ag.2.2 27 (by decide)]
                          try rw [ag.2.2 31 (by decide)]
                          try rw [ag.2.2 32 (by decide)]
                          try rw [ag.2.2 33 (by decide)]
                          try rw [ag.2.2 34 (by decide)]
                          refine GO.itn h (fun c h => ?_) (fun c h => ?_)
                          · skip
                            refine GO.callP (t_X12_letter ag h) (fun r h => ?_)
                            try rw [ag.2.2 24 (by decide)]
                            try rw [ag.2.2 25 (by decide)]
                            try rw [ag.2.2 26 (by decide)]
                            try rw [ag.2.2 27 (by decide)]
                            try rw [ag.2.2 31 (by decide)]
                            try rw [ag.2.2 32 (by decide)]
                            try rw [ag.2.2 33 (by decide)]
                            try rw [ag.2.2 34 (by decide)]
                            exact GO.leafI ag h
                          · skip
                            exact GO.leafI ag h
                        · skip
                          refine GO.callV (t_X12_fault ag h) (fun I L J M ag h => ?_)
                          try rw [ag.2.2 24 (by decide)]
                          try rw [ag.2.2 25 (by decide)]
                          try rw [ag.2.2 26 (by decide)]
                          try rw [ag.2.2 27 (by decide)]
                          try rw [ag.2.2 31 (by decide)]
                          try rw [ag.2.2 32 (by decide)]
                          try rw [ag.2.2 33 (by decide)]
                          try rw [ag.2.2 34 (by decide)]
                          exact GO.leafI ag h
          · skip
            refine GO.callI (t_X12_number ag h) (fun r I L J M ag h => ?_)
            try rw [ag.2.2 24 (by decide)]
            try rw [ag.2.2 25 (by decide)]
            try rw [ag.2.2 26 (by decide)]
            try rw [ag.2.2 27 (by decide)]
            try rw [ag.2.2 31 (by decide)]
            try rw [ag.2.2 32 (by decide)]
            try rw [ag.2.2 33 (by decide)]
            try rw [ag.2.2 34 (by decide)]
            exact GO.leafI ag h
        · skip
          refine GO.put ag h (fun I J ag h => ?_)
          try rw [ag.2.2 24 (by decide)]
          try rw [ag.2.2 25 (by decide)]
          try rw [ag.2.2 26 (by decide)]
          try rw [ag.2.2 27 (by decide)]
          try rw [ag.2.2 31 (by decide)]
          try rw [ag.2.2 32 (by decide)]
          try rw [ag.2.2 33 (by decide)]
          try rw [ag.2.2 34 (by decide)]
          refine GO.callI (hF 0 (by decide) ag h) (fun r I L J M ag h => ?_)
          try rw [ag.2.2 24 (by decide)]
          try rw [ag.2.2 25 (by decide)]
          try rw [ag.2.2 26 (by decide)]
          try rw [ag.2.2 27 (by decide)]
          try rw [ag.2.2 31 (by decide)]
          try rw [ag.2.2 32 (by decide)]
          try rw [ag.2.2 33 (by decide)]
          try rw [ag.2.2 34 (by decide)]
          refine GO.callV (t_X12_need ag h) (fun I L J M ag h => ?_)
          try rw [ag.2.2 24 (by decide)]
          try rw [ag.2.2 25 (by decide)]
          try rw [ag.2.2 26 (by decide)]
          try rw [ag.2.2 27 (by decide)]
          try rw [ag.2.2 31 (by decide)]
          try rw [ag.2.2 32 (by decide)]
          try rw [ag.2.2 33 (by decide)]
          try rw [ag.2.2 34 (by decide)]
          exact GO.leafI ag h
    · skip
      exact GO.leafI ag h
  · skip
    refine GO.callI (hF 3 (by decide) ag h) (fun r I L J M ag h => ?_)
    try rw [ag.2.2 24 (by decide)]
    try rw [ag.2.2 25 (by decide)]
    try rw [ag.2.2 26 (by decide)]
    try rw [ag.2.2 27 (by decide)]
    try rw [ag.2.2 31 (by decide)]
    try rw [ag.2.2 32 (by decide)]
    try rw [ag.2.2 33 (by decide)]
    try rw [ag.2.2 34 (by decide)]
    exact GO.leafI ag h
set_option maxHeartbeats 4000000 in
set_option maxRecDepth 100000 in
theorem tl_X12_effortOf_L8 {E : Prop} {v0 : Nat} {Z ZJ : jZ} {A : Int32 → jI → jL → Prop} : ∀ (n : Nat) {v1 : Int32} {v2 : Int32} {v3 : Int32} {v4 : Int32} {v5 : Int32} {I : jI} {L : jL} {J : jI} {M : jL}, A0 E v0 Z I L ZJ J M → f_X12_effortOf_L8 Z A n v0 v1 v2 v3 v4 v5 I L → GO (OKP A I L J M) (fun Q => ∃ m, f_X12_effortOf_L8 ZJ Q m v0 v1 v2 v3 v4 v5 J M) := by
  intro n
  induction n with
  | zero => intro v1 v2 v3 v4 v5 I L J M ag h; exact h.elim
  | succ n ih =>
    intro v1 v2 v3 v4 v5 I L J M ag h
    refine GO.loop (Bm := fun m Q => f_X12_effortOf_L8 ZJ Q m v0 v1 v2 v3 v4 v5 J M) (fun _ h => h) ?_
    show GO _ (fun q : (Int32 → jI → jL → Prop) × Nat => f_X12_effortOf_L8 ZJ q.1 (q.2 + 1) v0 v1 v2 v3 v4 v5 J M)
    unfold f_X12_effortOf_L8 at h ⊢
    refine GO.ite h (fun c h => ?_) (fun c h => ?_)
    · skip
      obtain ⟨b1, eb1, fb1, nb1, ab1⟩ := ag.2.1 12 (by decide)
      refine GO.ref eb1 fb1 h (fun h => ?_)
      try rw [ab1]
      refine GO.ob h (fun o h => ?_)
      obtain ⟨b2, eb2, fb2, nb2, ab2⟩ := ag.2.1 2 (by decide)
      refine GO.ref eb2 fb2 h (fun h => ?_)
      try rw [ab2]
      refine GO.ob h (fun o h => ?_)
      exact GO.leafB (B := fun (Q : Int32 → jI → jL → Prop) => Q _ _ _) (GO.leafP h)
    · skip
      obtain ⟨b3, eb3, fb3, nb3, ab3⟩ := ag.2.1 1 (by decide)
      refine GO.ref eb3 fb3 h (fun h => ?_)
      try rw [ab3]
      refine GO.ob h (fun o h => ?_)
      refine GO.eq h (fun h => ?_)
      refine GO.eq h (fun h => ?_)
      have g9 := GO.back (ih ag h)
      exact g9
set_option maxHeartbeats 4000000 in
set_option maxRecDepth 100000 in
theorem t_X12_effortOf {E : Prop} {v0 : Nat} {v1 : Int32} {v2 : Int32} {v3 : Int32} {Z : jZ} {I : jI} {L : jL} {ZJ : jZ} {J : jI} {M : jL} {A : Int32 → jI → jL → Prop} (ag : A0 E v0 Z I L ZJ J M) (h : f_X12_effortOf v0 v1 v2 v3 Z I L A) : GO (OKP A I L J M) (fun Q => f_X12_effortOf v0 v1 v2 v3 ZJ J M Q) := by
  unfold f_X12_effortOf at h ⊢
  refine GO.eq h (fun h => ?_)
  obtain ⟨n9, h⟩ := h
  exact tl_X12_effortOf_L8 n9 ag h
theorem ht : ∀ d, HT (fR12 d) := by
  intro d
  induction d with
  | zero => intro w hw E v0 v1 Z I L ZJ J M A ag h; exact h.elim
  | succ d ih =>
    intro w hw E v0 v1 Z I L ZJ J M A ag h
    match w, hw with
    | 0, _ => exact t_X12_held ih ag h
    | 1, _ => exact t_X12_sum ih ag h
    | 2, _ => exact t_X12_product ih ag h
    | 3, _ => exact t_X12_thing ih ag h
