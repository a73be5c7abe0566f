/-! ===== the law's loop ===== -/
/-- between calls, in groups -/
def LG0 (B : Nat × Nat) (v1 : Nat) (v2 : Nat) (v3 : Nat) (T : Nat) (uT : Nat) (uB : Nat) (uM : Nat) (Z : jZ) (I : jI) : Prop := WD Z I ∧ BUD B Z T ∧ jk Z v1 11 ∧ jk Z v2 12 ∧ jk Z v3 15 ∧ jlen Z v3 = 1 ∧ (I v1 4).toInt + (T : Int) = 6 ∧ jr Z v1 0 = some uT ∧ jk Z uT 10 ∧ jr Z uT 0 = some uB ∧ jk Z uB 13 ∧ jr Z v2 18 = some uM
def LG1 (v1 : Nat) (v2 : Nat) (v4 : Int32) (uT : Nat) (uB : Nat) (uM : Nat) (uF : Nat) (uS : Nat) (uK : Nat) (Z : jZ) (I : jI) : Prop := jk Z uM 13 ∧ TBr I uT uB v2 uM ∧ jr Z v1 2 = some uF ∧ jk Z uF 8 ∧ (I uF 9).toInt = (I v2 0).toInt ∧ 6 * (I v2 7).toInt ≤ v4.toInt ∧ (I v1 4).toInt = (I v2 8).toInt ∧ jr Z v1 8 = some uS ∧ jk Z uS 17 ∧ jlen Z uS = 2 ∧ jr Z v2 63 = some uK ∧ jk Z uK 16
def LG2 (v1 : Nat) (v2 : Nat) (uF : Nat) (uS : Nat) (uK : Nat) (uC : Nat) (uA : Nat) (uV : Nat) (uX : Nat) (uY : Nat) (Z : jZ) (I : jI) : Prop := jr Z v2 64 = some uC ∧ jk Z uC 14 ∧ HK Z I uS v2 uK uC ∧ jr Z v1 3 = some uA ∧ jk Z uA 18 ∧ jr Z v2 13 = some uV ∧ jk Z uV 14 ∧ PRr 4 Z I v1 uA uV ∧ jr Z uF 1 = some uX ∧ jk Z uX 14 ∧ jr Z v2 2 = some uY ∧ jk Z uY 14
def LG3 (v1 : Nat) (v2 : Nat) (uF : Nat) (uS : Nat) (uX : Nat) (uY : Nat) (uR : Nat) (vR : Nat) (uP : Nat) (x0 : Nat) (x2 : Nat) (u5 : Nat) (u53 : Nat) (u54 : Nat) (u62 : Nat) (Z : jZ) (I : jI) : Prop := jr Z uF 0 = some uR ∧ jk Z uR 14 ∧ jr Z v2 1 = some vR ∧ jk Z vR 14 ∧ ARr (I v2 0).toInt (I uX) (I uY) ∧ KC Z I uS u62 (I v2 0).toInt ∧ ARr (I v2 0).toInt (I uR) (I vR) ∧ PCs Z v1 uF uP x0 x2 ∧ PMs Z v2 u5 u53 u54 ∧ jr Z v2 62 = some u62 ∧ jk Z u62 14 ∧ PR I uP x0 x2 v2 u5 u53
def LG4 (v1 : Nat) (v2 : Nat) (uF : Nat) (uS : Nat) (uA : Nat) (uP : Nat) (x0 : Nat) (u62 : Nat) (x1 : Nat) (uQ : Nat) (vQ : Nat) (uW : Nat) (vW : Nat) (t30 : Nat) (t29 : Nat) (u5c : Nat) (t6 : Nat) (t9 : Nat) (t10 : Nat) (t11 : Nat) (t12 : Nat) (Z : jZ) (I : jI) : Prop := KP2 Z I uS u62 (I v2 0).toInt.toNat ∧ jr Z uP 1 = some x1 ∧ MAI I x0 x1 ∧ AK Z I uF v2 uS u62 uQ vQ ∧ ARr (I v2 0).toInt (I uQ) (I vQ) ∧ WI Z I uF v2 uW vW ∧ LB Z I uF v2 t30 t29 ∧ FB Z I uF v2 u5c t6 ∧ PB Z I v1 uF v2 uA t9 t10 t11 t12 ∧ (I v2 39).toInt = -1
/-- between calls -/
def LInv (B : Nat × Nat) (v1 v2 v3 : Nat) (v4 : Int32) (Z : jZ) (I : jI) : Prop := ∃ T uT uB uM uF uS uK uC uA uV uX uY uR vR uP x0 x2 u5 u53 u54 u62 x1 uQ vQ uW vW t30 t29 u5c t6 t9 t10 t11 t12 : Nat, LG0 B v1 v2 v3 T uT uB uM Z I ∧ LG1 v1 v2 v4 uT uB uM uF uS uK Z I ∧ LG2 v1 v2 uF uS uK uC uA uV uX uY Z I ∧ LG3 v1 v2 uF uS uX uY uR vR uP x0 x2 u5 u53 u54 u62 Z I ∧ LG4 v1 v2 uF uS uA uP x0 u62 x1 uQ vQ uW vW t30 t29 u5c t6 t9 t10 t11 t12 Z I
theorem LInv_mk {B : Nat × Nat} {v1 v2 v3 : Nat} {v4 : Int32} {Z : jZ} {I : jI} (T uT uB uM uF uS uK uC uA uV uX uY uR vR uP x0 x2 u5 u53 u54 u62 x1 uQ vQ uW vW t30 t29 u5c t6 t9 t10 t11 t12 : Nat) (g0 : LG0 B v1 v2 v3 T uT uB uM Z I) (g1 : LG1 v1 v2 v4 uT uB uM uF uS uK Z I) (g2 : LG2 v1 v2 uF uS uK uC uA uV uX uY Z I) (g3 : LG3 v1 v2 uF uS uX uY uR vR uP x0 x2 u5 u53 u54 u62 Z I) (g4 : LG4 v1 v2 uF uS uA uP x0 u62 x1 uQ vQ uW vW t30 t29 u5c t6 t9 t10 t11 t12 Z I) : LInv B v1 v2 v3 v4 Z I := ⟨T, uT, uB, uM, uF, uS, uK, uC, uA, uV, uX, uY, uR, vR, uP, x0, x2, u5, u53, u54, u62, x1, uQ, vQ, uW, vW, t30, t29, u5c, t6, t9, t10, t11, t12, g0, g1, g2, g3, g4⟩
set_option maxHeartbeats 4000000 in
set_option maxRecDepth 100000 in
theorem k_b244 {xs : Nat → Int32} {Ls : Nat} {B : Nat × Nat} {K : Nat → Nat → Nat → Int32 → jZ → jI → jL → Prop} {v1 v2 v3 : Nat} {v4 : Int32} {Z : jZ} {I : jI} {L : jL} {T uT uB uM uF uS uK uC uA uV uX uY uR vR uP x0 x2 u5 u53 u54 u62 x1 uQ vQ uW vW t30 t29 u5c t6 t9 t10 t11 t12 : Nat} (g0 : LG0 B v1 v2 v3 T uT uB uM Z I) (g1 : LG1 v1 v2 v4 uT uB uM uF uS uK Z I) (g2 : LG2 v1 v2 uF uS uK uC uA uV uX uY Z I) (g3 : LG3 v1 v2 uF uS uX uY uR vR uP x0 x2 u5 u53 u54 u62 Z I) (g4 : LG4 v1 v2 uF uS uA uP x0 u62 x1 uQ vQ uW vW t30 t29 u5c t6 t9 t10 t11 t12 Z I) (hv : 0 ≤ v4.toInt ∧ v4.toInt + 6 ≤ (Ls : Int) ∧ (Ls : Int) ≤ 3072) (hK : ∀ (Z : jZ) (I : jI) (L : jL) (x : Int32), x = v4 + 6 → LInv B v1 v2 v3 x Z I → K v1 v2 v3 x Z I L) : f_L_law_b244 xs Ls B K v1 v2 v3 v4 Z I L := by
  obtain ⟨w, bd, kv1, kv2, kv3, hl, ht, hruT, kuT, hruB, kuB, hruM⟩ := g0
  obtain ⟨kuM, hx, hruF, kuF, hx1, hx2, hx3, hruS, kuS, luS, hruK, kuK⟩ := g1
  obtain ⟨hruC, kuC, hk, hruA, kuA, hruV, kuV, hv0, hruX, kuX, hruY, kuY⟩ := g2
  obtain ⟨hruR, kuR, hrvR, kvR, hs0, hc0, hs9, hpc, hpm, hru62, ku62, hp0⟩ := g3
  obtain ⟨hk2, hm1, hm0, hak, ha0, hwi, hlb, hfb, hpb, hsh⟩ := g4
  unfold f_L_law_b244
  refine ⟨vi_of (i_add rfl (show (1 : Int32).toInt = 1 from rfl) (by omega) (by omega)) (by omega) (by omega), ?_⟩
  have wo := w
  have hz0 : 0 ≤ (I uT 1).toInt := (show rg 0 80 (I uT 1) from w.fld 10 1 kuT (by decide)).1
  refine a_sign w v1 _ kv1 uT hruT uB hruB  (fun r1 I L w f p1 => ?_)
  have ht : (I v1 4).toInt + (T : Int) = 6 := by rw [f.2.2.1 v1 11 4 kv1 (by decide) (by decide)]; exact ht
  have ha0 := ARr_same (f.2.2.2 uF 8 2 uQ kuF hak.1 (by rw [hak.2.1.2]; rfl) rfl (by decide)) (f.2.2.2 v2 12 3 vQ kv2 hak.2.2.1 (by rw [hak.2.2.2.1.2]; rfl) rfl (by decide)) (congrArg Int32.toInt (f.2.2.1 v2 12 0 kv2 (by decide) (by decide))) ha0
  have hwi := WI_fr f kuF kv2 (by decide) hwi
  have hlb := LB_fr f wo kuF kv2 (by decide) hlb
  have hfb := FB_fr f kuF kv2 (by decide) hfb
  have hpb := PB_fr f kv1 kuA kv2 (by decide) hpb
  have hsh : (I v2 39).toInt = -1 := by rw [f.2.2.1 v2 12 39 kv2 (by decide) (by decide)]; exact hsh
  have hak := AK_fr f wo kuF kv2 kuS luS hru62 ku62 (by decide) hak
  have hm0 := MAI_fr wo hpc.2.2.2.1 hpc.2.2.2.2.1 hm1 f (by decide) (by decide) hm0
  have hp0 := PR_same (EQC_fr f hpc (by decide)) (EQM_fr f kv2 hpm (by decide)) hp0
  have hk2 : KP2 Z I uS u62 (I v2 0).toInt.toNat := by rw [(f.2.2.1 v2 12 0 kv2 (by decide) (by decide))]; exact KP2_fr f wo.1 kuS luS kv2 hru62 ku62 (by decide) (by decide) (by decide) hk2
  have hs0 := ARr_same (f.2.2.2 uF 8 1 uX kuF hruX (by rw [kuX.2]; rfl) rfl (by decide)) (f.2.2.2 v2 12 2 uY kv2 hruY (by rw [kuY.2]; rfl) rfl (by decide)) (congrArg Int32.toInt (f.2.2.1 v2 12 0 kv2 (by decide) (by decide))) hs0
  have hc0 := KC_fr f wo.1 kuS luS kv2 hru62 ku62 (by decide) (by decide) (by decide) (congrArg Int32.toInt (f.2.2.1 v2 12 0 kv2 (by decide) (by decide))) hc0
  have hs9 := ARr_same (f.2.2.2 uF 8 0 uR kuF hruR (by rw [kuR.2]; rfl) rfl (by decide)) (f.2.2.2 v2 12 1 vR kv2 hrvR (by rw [kvR.2]; rfl) rfl (by decide)) (congrArg Int32.toInt (f.2.2.1 v2 12 0 kv2 (by decide) (by decide))) hs9
  have hv0 := PRr_fr f kv1 kuA (eMf f kv2 hruV kuV rfl (by decide)) (by decide) (by decide) hv0
  have hk := HK_fr f kuS kv2 hruK kuK hruC kuC (by decide) (by decide) (by decide) (by decide) hk
  have g1 : I uM = _ := f.2.2.2 v2 12 18 uM kv2 hruM (by rw [kuM.2]; rfl) rfl (by decide)
  have g2 := f.2.2.1 v2 12 19 kv2 (by decide) (by decide)
  have ea1 := congrArg Int32.toInt (f.2.2.1 uF 8 9 kuF (by decide) (by decide))
  have ea2 := congrArg Int32.toInt (f.2.2.1 v2 12 0 kv2 (by decide) (by decide))
  have ea3 := congrArg Int32.toInt (f.2.2.1 v2 12 7 kv2 (by decide) (by decide))
  have ea4 := congrArg Int32.toInt (f.2.2.1 v1 11 4 kv1 (by decide) (by decide))
  have ea5 := congrArg Int32.toInt (f.2.2.1 v2 12 8 kv2 (by decide) (by decide))
  refine ⟨vi_of (i_add rfl (show (1 : Int32).toInt = 1 from rfl) (by omega) (by omega)) (by omega) (by omega), ?_⟩
  have wo := w
  refine m_sign w v2 _ kv2 uM hruM  (fun r2 I L w f p2 => ?_)
  have ht : (I v1 4).toInt + (T : Int) = 6 := by rw [f.2.2.1 v1 11 4 kv1 (by decide) (by decide)]; exact ht
  have ha0 := ARr_same (f.2.2.2 uF 8 2 uQ kuF hak.1 (by rw [hak.2.1.2]; rfl) rfl (by decide)) (f.2.2.2 v2 12 3 vQ kv2 hak.2.2.1 (by rw [hak.2.2.2.1.2]; rfl) rfl (by decide)) (congrArg Int32.toInt (f.2.2.1 v2 12 0 kv2 (by decide) (by decide))) ha0
  have hwi := WI_fr f kuF kv2 (by decide) hwi
  have hlb := LB_fr f wo kuF kv2 (by decide) hlb
  have hfb := FB_fr f kuF kv2 (by decide) hfb
  have hpb := PB_fr f kv1 kuA kv2 (by decide) hpb
  have hsh : (I v2 39).toInt = -1 := by rw [f.2.2.1 v2 12 39 kv2 (by decide) (by decide)]; exact hsh
  have hak := AK_fr f wo kuF kv2 kuS luS hru62 ku62 (by decide) hak
  have hm0 := MAI_fr wo hpc.2.2.2.1 hpc.2.2.2.2.1 hm1 f (by decide) (by decide) hm0
  have hp0 := PR_same (EQC_fr f hpc (by decide)) (EQM_fr f kv2 hpm (by decide)) hp0
  have hk2 : KP2 Z I uS u62 (I v2 0).toInt.toNat := by rw [(f.2.2.1 v2 12 0 kv2 (by decide) (by decide))]; exact KP2_fr f wo.1 kuS luS kv2 hru62 ku62 (by decide) (by decide) (by decide) hk2
  have hs0 := ARr_same (f.2.2.2 uF 8 1 uX kuF hruX (by rw [kuX.2]; rfl) rfl (by decide)) (f.2.2.2 v2 12 2 uY kv2 hruY (by rw [kuY.2]; rfl) rfl (by decide)) (congrArg Int32.toInt (f.2.2.1 v2 12 0 kv2 (by decide) (by decide))) hs0
  have hc0 := KC_fr f wo.1 kuS luS kv2 hru62 ku62 (by decide) (by decide) (by decide) (congrArg Int32.toInt (f.2.2.1 v2 12 0 kv2 (by decide) (by decide))) hc0
  have hs9 := ARr_same (f.2.2.2 uF 8 0 uR kuF hruR (by rw [kuR.2]; rfl) rfl (by decide)) (f.2.2.2 v2 12 1 vR kv2 hrvR (by rw [kvR.2]; rfl) rfl (by decide)) (congrArg Int32.toInt (f.2.2.1 v2 12 0 kv2 (by decide) (by decide))) hs9
  have hv0 := PRr_fr f kv1 kuA (eMf f kv2 hruV kuV rfl (by decide)) (by decide) (by decide) hv0
  have hk := HK_fr f kuS kv2 hruK kuK hruC kuC (by decide) (by decide) (by decide) (by decide) hk
  have g4 : I uB = _ := f.2.2.2 uT 10 0 uB kuT hruB (by rw [kuB.2]; rfl) rfl (by decide)
  have g5 := f.2.2.1 uT 10 1 kuT (by decide) (by decide)
  obtain ⟨hx, er⟩ := TBr_sign hx p1 p2 g1 g2 g4 g5 hz0
  have ea6 := congrArg Int32.toInt (f.2.2.1 uF 8 9 kuF (by decide) (by decide))
  have ea7 := congrArg Int32.toInt (f.2.2.1 v2 12 0 kv2 (by decide) (by decide))
  have ea8 := congrArg Int32.toInt (f.2.2.1 v2 12 7 kv2 (by decide) (by decide))
  have ea9 := congrArg Int32.toInt (f.2.2.1 v1 11 4 kv1 (by decide) (by decide))
  have ea10 := congrArg Int32.toInt (f.2.2.1 v2 12 8 kv2 (by decide) (by decide))
  unfold f_L_law_b1760
  intro x ex
  have tx : x.toInt = v4.toInt + 6 := by rw [ex]; exact i_add rfl (show (6 : Int32).toInt = 6 from rfl) (by omega) (by omega)
  exact hK _ _ _ x ex (LInv_mk (Z := Z) (I := I) T uT uB uM uF uS uK uC uA uV uX uY uR vR uP x0 x2 u5 u53 u54 u62 x1 uQ vQ uW vW t30 t29 u5c t6 t9 t10 t11 t12 ⟨w, bd, kv1, kv2, kv3, hl, ht, hruT, kuT, hruB, kuB, hruM⟩ ⟨kuM, hx, hruF, kuF, (by omega), (by omega), (by omega), hruS, kuS, luS, hruK, kuK⟩ ⟨hruC, kuC, hk, hruA, kuA, hruV, kuV, hv0, hruX, kuX, hruY, kuY⟩ ⟨hruR, kuR, hrvR, kvR, hs0, hc0, hs9, hpc, hpm, hru62, ku62, hp0⟩ ⟨hk2, hm1, hm0, hak, ha0, hwi, hlb, hfb, hpb, hsh⟩)
set_option maxHeartbeats 4000000 in
set_option maxRecDepth 100000 in
theorem k_b269 {xs : Nat → Int32} {Ls : Nat} {B : Nat × Nat} {K : Nat → Nat → Nat → Int32 → jZ → jI → jL → Prop} {v1 v2 v3 : Nat} {v4 : Int32} {Z : jZ} {I : jI} {L : jL} {T uT uB uM uF uS uK uC uA uV uX uY uR vR uP x0 x2 u5 u53 u54 u62 x1 uQ vQ uW vW t30 t29 u5c t6 t9 t10 t11 t12 : Nat} (g0 : LG0 B v1 v2 v3 T uT uB uM Z I) (g1 : LG1 v1 v2 v4 uT uB uM uF uS uK Z I) (g2 : LG2 v1 v2 uF uS uK uC uA uV uX uY Z I) (g3 : LG3 v1 v2 uF uS uX uY uR vR uP x0 x2 u5 u53 u54 u62 Z I) (g4 : LG4 v1 v2 uF uS uA uP x0 u62 x1 uQ vQ uW vW t30 t29 u5c t6 t9 t10 t11 t12 Z I) (hv : 0 ≤ v4.toInt ∧ v4.toInt + 6 ≤ (Ls : Int) ∧ (Ls : Int) ≤ 3072) (hK : ∀ (Z : jZ) (I : jI) (L : jL) (x : Int32), x = v4 + 6 → LInv B v1 v2 v3 x Z I → K v1 v2 v3 x Z I L) : f_L_law_b269 xs Ls B K v1 v2 v3 v4 Z I L := by
  obtain ⟨w, bd, kv1, kv2, kv3, hl, ht, hruT, kuT, hruB, kuB, hruM⟩ := g0
  obtain ⟨kuM, hx, hruF, kuF, hx1, hx2, hx3, hruS, kuS, luS, hruK, kuK⟩ := g1
  obtain ⟨hruC, kuC, hk, hruA, kuA, hruV, kuV, hv0, hruX, kuX, hruY, kuY⟩ := g2
  obtain ⟨hruR, kuR, hrvR, kvR, hs0, hc0, hs9, hpc, hpm, hru62, ku62, hp0⟩ := g3
  obtain ⟨hk2, hm1, hm0, hak, ha0, hwi, hlb, hfb, hpb, hsh⟩ := g4
  unfold f_L_law_b269
  refine ⟨vi_of (i_add rfl (show (1 : Int32).toInt = 1 from rfl) (by omega) (by omega)) (by omega) (by omega), ?_⟩
  have wo := w
  have hz0 : 0 ≤ (I uT 1).toInt := (show rg 0 80 (I uT 1) from w.fld 10 1 kuT (by decide)).1
  refine s9_X11_end w v1 _ kv1 uT hruT  (fun r1 I L w f p1 => ?_)
  have ht : (I v1 4).toInt + (T : Int) = 6 := by rw [f.2.2.1 v1 11 4 kv1 (by decide) (by decide)]; exact ht
  have ha0 := ARr_same (f.2.2.2 uF 8 2 uQ kuF hak.1 (by rw [hak.2.1.2]; rfl) rfl (by decide)) (f.2.2.2 v2 12 3 vQ kv2 hak.2.2.1 (by rw [hak.2.2.2.1.2]; rfl) rfl (by decide)) (congrArg Int32.toInt (f.2.2.1 v2 12 0 kv2 (by decide) (by decide))) ha0
  have hwi := WI_fr f kuF kv2 (by decide) hwi
  have hlb := LB_fr f wo kuF kv2 (by decide) hlb
  have hfb := FB_fr f kuF kv2 (by decide) hfb
  have hpb := PB_fr f kv1 kuA kv2 (by decide) hpb
  have hsh : (I v2 39).toInt = -1 := by rw [f.2.2.1 v2 12 39 kv2 (by decide) (by decide)]; exact hsh
  have hak := AK_fr f wo kuF kv2 kuS luS hru62 ku62 (by decide) hak
  have hm0 := MAI_fr wo hpc.2.2.2.1 hpc.2.2.2.2.1 hm1 f (by decide) (by decide) hm0
  have hp0 := PR_same (EQC_fr f hpc (by decide)) (EQM_fr f kv2 hpm (by decide)) hp0
  have hk2 : KP2 Z I uS u62 (I v2 0).toInt.toNat := by rw [(f.2.2.1 v2 12 0 kv2 (by decide) (by decide))]; exact KP2_fr f wo.1 kuS luS kv2 hru62 ku62 (by decide) (by decide) (by decide) hk2
  have hs0 := ARr_same (f.2.2.2 uF 8 1 uX kuF hruX (by rw [kuX.2]; rfl) rfl (by decide)) (f.2.2.2 v2 12 2 uY kv2 hruY (by rw [kuY.2]; rfl) rfl (by decide)) (congrArg Int32.toInt (f.2.2.1 v2 12 0 kv2 (by decide) (by decide))) hs0
  have hc0 := KC_fr f wo.1 kuS luS kv2 hru62 ku62 (by decide) (by decide) (by decide) (congrArg Int32.toInt (f.2.2.1 v2 12 0 kv2 (by decide) (by decide))) hc0
  have hs9 := ARr_same (f.2.2.2 uF 8 0 uR kuF hruR (by rw [kuR.2]; rfl) rfl (by decide)) (f.2.2.2 v2 12 1 vR kv2 hrvR (by rw [kvR.2]; rfl) rfl (by decide)) (congrArg Int32.toInt (f.2.2.1 v2 12 0 kv2 (by decide) (by decide))) hs9
  have hv0 := PRr_fr f kv1 kuA (eMf f kv2 hruV kuV rfl (by decide)) (by decide) (by decide) hv0
  have hk := HK_fr f kuS kv2 hruK kuK hruC kuC (by decide) (by decide) (by decide) (by decide) hk
  have g1 : I uM = _ := f.2.2.2 v2 12 18 uM kv2 hruM (by rw [kuM.2]; rfl) rfl (by decide)
  have g2 := f.2.2.1 v2 12 19 kv2 (by decide) (by decide)
  have g3 : I uB = _ := f.2.2.2 uT 10 0 uB kuT hruB (by rw [kuB.2]; rfl) rfl (by decide)
  have ea11 := congrArg Int32.toInt (f.2.2.1 uF 8 9 kuF (by decide) (by decide))
  have ea12 := congrArg Int32.toInt (f.2.2.1 v2 12 0 kv2 (by decide) (by decide))
  have ea13 := congrArg Int32.toInt (f.2.2.1 v2 12 7 kv2 (by decide) (by decide))
  have ea14 := congrArg Int32.toInt (f.2.2.1 v1 11 4 kv1 (by decide) (by decide))
  have ea15 := congrArg Int32.toInt (f.2.2.1 v2 12 8 kv2 (by decide) (by decide))
  refine ⟨vi_of (i_add rfl (show (1 : Int32).toInt = 1 from rfl) (by omega) (by omega)) (by omega) (by omega), ?_⟩
  have wo := w
  refine s9_X12_end w v2 _ kv2  (fun r2 I L w f p2 => ?_)
  have ht : (I v1 4).toInt + (T : Int) = 6 := by rw [f.2.2.1 v1 11 4 kv1 (by decide) (by decide)]; exact ht
  have ha0 := ARr_same (f.2.2.2 uF 8 2 uQ kuF hak.1 (by rw [hak.2.1.2]; rfl) rfl (by decide)) (f.2.2.2 v2 12 3 vQ kv2 hak.2.2.1 (by rw [hak.2.2.2.1.2]; rfl) rfl (by decide)) (congrArg Int32.toInt (f.2.2.1 v2 12 0 kv2 (by decide) (by decide))) ha0
  have hwi := WI_fr f kuF kv2 (by decide) hwi
  have hlb := LB_fr f wo kuF kv2 (by decide) hlb
  have hfb := FB_fr f kuF kv2 (by decide) hfb
  have hpb := PB_fr f kv1 kuA kv2 (by decide) hpb
  have hsh : (I v2 39).toInt = -1 := by rw [f.2.2.1 v2 12 39 kv2 (by decide) (by decide)]; exact hsh
  have hak := AK_fr f wo kuF kv2 kuS luS hru62 ku62 (by decide) hak
  have hm0 := MAI_fr wo hpc.2.2.2.1 hpc.2.2.2.2.1 hm1 f (by decide) (by decide) hm0
  have hp0 := PR_same (EQC_fr f hpc (by decide)) (EQM_fr f kv2 hpm (by decide)) hp0
  have hk2 : KP2 Z I uS u62 (I v2 0).toInt.toNat := by rw [(f.2.2.1 v2 12 0 kv2 (by decide) (by decide))]; exact KP2_fr f wo.1 kuS luS kv2 hru62 ku62 (by decide) (by decide) (by decide) hk2
  have hs0 := ARr_same (f.2.2.2 uF 8 1 uX kuF hruX (by rw [kuX.2]; rfl) rfl (by decide)) (f.2.2.2 v2 12 2 uY kv2 hruY (by rw [kuY.2]; rfl) rfl (by decide)) (congrArg Int32.toInt (f.2.2.1 v2 12 0 kv2 (by decide) (by decide))) hs0
  have hc0 := KC_fr f wo.1 kuS luS kv2 hru62 ku62 (by decide) (by decide) (by decide) (congrArg Int32.toInt (f.2.2.1 v2 12 0 kv2 (by decide) (by decide))) hc0
  have hs9 := ARr_same (f.2.2.2 uF 8 0 uR kuF hruR (by rw [kuR.2]; rfl) rfl (by decide)) (f.2.2.2 v2 12 1 vR kv2 hrvR (by rw [kvR.2]; rfl) rfl (by decide)) (congrArg Int32.toInt (f.2.2.1 v2 12 0 kv2 (by decide) (by decide))) hs9
  have hv0 := PRr_fr f kv1 kuA (eMf f kv2 hruV kuV rfl (by decide)) (by decide) (by decide) hv0
  have hk := HK_fr f kuS kv2 hruK kuK hruC kuC (by decide) (by decide) (by decide) (by decide) hk
  have g4 : I uB = _ := f.2.2.2 uT 10 0 uB kuT hruB (by rw [kuB.2]; rfl) rfl (by decide)
  have g5 := f.2.2.1 uT 10 1 kuT (by decide) (by decide)
  have g6 : I uM = _ := f.2.2.2 v2 12 18 uM kv2 hruM (by rw [kuM.2]; rfl) rfl (by decide)
  have g2 := congrArg Int32.toInt g2
  have g5 := congrArg Int32.toInt g5
  have hx1 := hx.1
  have hx := TBr_cut hx (g4.trans g3) (g6.trans g1) (by omega) (by omega)
  have ea16 := congrArg Int32.toInt (f.2.2.1 uF 8 9 kuF (by decide) (by decide))
  have ea17 := congrArg Int32.toInt (f.2.2.1 v2 12 0 kv2 (by decide) (by decide))
  have ea18 := congrArg Int32.toInt (f.2.2.1 v2 12 7 kv2 (by decide) (by decide))
  have ea19 := congrArg Int32.toInt (f.2.2.1 v1 11 4 kv1 (by decide) (by decide))
  have ea20 := congrArg Int32.toInt (f.2.2.1 v2 12 8 kv2 (by decide) (by decide))
  unfold f_L_law_b1760
  intro x ex
  have tx : x.toInt = v4.toInt + 6 := by rw [ex]; exact i_add rfl (show (6 : Int32).toInt = 6 from rfl) (by omega) (by omega)
  exact hK _ _ _ x ex (LInv_mk (Z := Z) (I := I) T uT uB uM uF uS uK uC uA uV uX uY uR vR uP x0 x2 u5 u53 u54 u62 x1 uQ vQ uW vW t30 t29 u5c t6 t9 t10 t11 t12 ⟨w, bd, kv1, kv2, kv3, hl, ht, hruT, kuT, hruB, kuB, hruM⟩ ⟨kuM, hx, hruF, kuF, (by omega), (by omega), (by omega), hruS, kuS, luS, hruK, kuK⟩ ⟨hruC, kuC, hk, hruA, kuA, hruV, kuV, hv0, hruX, kuX, hruY, kuY⟩ ⟨hruR, kuR, hrvR, kvR, hs0, hc0, hs9, hpc, hpm, hru62, ku62, hp0⟩ ⟨hk2, hm1, hm0, hak, ha0, hwi, hlb, hfb, hpb, hsh⟩)
set_option maxHeartbeats 4000000 in
set_option maxRecDepth 100000 in
theorem k_b294 {xs : Nat → Int32} {Ls : Nat} {B : Nat × Nat} {K : Nat → Nat → Nat → Int32 → jZ → jI → jL → Prop} {v1 v2 v3 : Nat} {v4 : Int32} {Z : jZ} {I : jI} {L : jL} {T uT uB uM uF uS uK uC uA uV uX uY uR vR uP x0 x2 u5 u53 u54 u62 x1 uQ vQ uW vW t30 t29 u5c t6 t9 t10 t11 t12 : Nat} (g0 : LG0 B v1 v2 v3 T uT uB uM Z I) (g1 : LG1 v1 v2 v4 uT uB uM uF uS uK Z I) (g2 : LG2 v1 v2 uF uS uK uC uA uV uX uY Z I) (g3 : LG3 v1 v2 uF uS uX uY uR vR uP x0 x2 u5 u53 u54 u62 Z I) (g4 : LG4 v1 v2 uF uS uA uP x0 u62 x1 uQ vQ uW vW t30 t29 u5c t6 t9 t10 t11 t12 Z I) (hv : 0 ≤ v4.toInt ∧ v4.toInt + 6 ≤ (Ls : Int) ∧ (Ls : Int) ≤ 3072) (hK : ∀ (Z : jZ) (I : jI) (L : jL) (x : Int32), x = v4 + 6 → LInv B v1 v2 v3 x Z I → K v1 v2 v3 x Z I L) : f_L_law_b294 xs Ls B K v1 v2 v3 v4 Z I L := by
  obtain ⟨w, bd, kv1, kv2, kv3, hl, ht, hruT, kuT, hruB, kuB, hruM⟩ := g0
  obtain ⟨kuM, hx, hruF, kuF, hx1, hx2, hx3, hruS, kuS, luS, hruK, kuK⟩ := g1
  obtain ⟨hruC, kuC, hk, hruA, kuA, hruV, kuV, hv0, hruX, kuX, hruY, kuY⟩ := g2
  obtain ⟨hruR, kuR, hrvR, kvR, hs0, hc0, hs9, hpc, hpm, hru62, ku62, hp0⟩ := g3
  obtain ⟨hk2, hm1, hm0, hak, ha0, hwi, hlb, hfb, hpb, hsh⟩ := g4
  unfold f_L_law_b294
  have wo := w
  obtain ⟨uN, hruN, -⟩ := sh_o w.1 kv1 (j := 1) (k := 9) rfl
  have hz0 : 0 ≤ (I uT 1).toInt := (show rg 0 80 (I uT 1) from w.fld 10 1 kuT (by decide)).1
  refine mj_X11_stairs (s18_X11_stairs w v1 kv1 uF uP x0 x1 ⟨hpc.1, hpc.2.1, hpc.2.2.1, hpc.2.2.2.1, hpc.2.2.2.2.1, hm1⟩ hm0 (Q := fun _ I' _ => MAI I' x0 x1) (fun r I' L' h => h)) ?_
  refine s15_X11_stairs w v1 kv1 uT hruT uB hruB uF hruF uN hruN hx.2.1 uS hruS  (fun r1 I L w f p1 q1 d1 hm0 => ?_)
  have ht : (I v1 4).toInt + (T : Int) = 6 := by rw [f.2.2.1 v1 11 4 kv1 (by decide) (by decide)]; exact ht
  have ha9 := ha0
  have hkc9 := hak.2.2.2.2
  have eA1 : I vQ = _ := (f.2.2.2 v2 12 3 vQ kv2 hak.2.2.1 (by rw [hak.2.2.2.1.2]; rfl) rfl (by decide))
  have e01 := (f.2.2.1 v2 12 0 kv2 (by decide) (by decide))
  have eW1 : I vW = _ := f.2.2.2 v2 12 4 vW kv2 hwi.2.2.1 (by rw [hwi.2.2.2.1.2]; rfl) rfl (by decide)
  have hlb := LB_fr f wo kuF kv2 (by decide) hlb
  have hfb := FB_fr f kuF kv2 (by decide) hfb
  have hpb := PB_fr f kv1 kuA kv2 (by decide) hpb
  have hsh : (I v2 39).toInt = -1 := by rw [f.2.2.1 v2 12 39 kv2 (by decide) (by decide)]; exact hsh
  have hpA := hp0
  have hkA := hk2
  have wk := wo
  have fk := f
  have e01 := (f.2.2.1 v2 12 0 kv2 (by decide) (by decide))
  have qm := (EQM_fr f kv2 hpm (by decide))
  have r24 : r1.toInt ≤ 24 := (Int.le_total 0 r1.toInt).elim (fun h9 => by have h8 := p1.2.2.1 h9; have h7 := (show rg 0 24 (I uF 9) from w.fld 8 9 kuF (by decide)).2; omega) (fun h9 => by omega)
  have hsA := hs0
  have hcA := hc0
  have wk := wo
  have fk := f
  have e01 := (f.2.2.1 v2 12 0 kv2 (by decide) (by decide))
  have eY1 : I uY = _ := (f.2.2.2 v2 12 2 uY kv2 hruY (by rw [kuY.2]; rfl) rfl (by decide))
  have hsR := hs9
  have eR1 : I vR = _ := (f.2.2.2 v2 12 1 vR kv2 hrvR (by rw [kvR.2]; rfl) rfl (by decide))
  have hv0 := PRr_fr f kv1 kuA (eMf f kv2 hruV kuV rfl (by decide)) (by decide) (by decide) hv0
  have fk := f
  have g1 : I uM = _ := f.2.2.2 v2 12 18 uM kv2 hruM (by rw [kuM.2]; rfl) rfl (by decide)
  have g2 := f.2.2.1 v2 12 19 kv2 (by decide) (by decide)
  have g3 : I uB = _ := f.2.2.2 uT 10 0 uB kuT hruB (by rw [kuB.2]; rfl) rfl (by decide)
  have ea21 := congrArg Int32.toInt (f.2.2.1 v2 12 0 kv2 (by decide) (by decide))
  have ea22 := congrArg Int32.toInt (f.2.2.1 v2 12 7 kv2 (by decide) (by decide))
  have ea23 := congrArg Int32.toInt (f.2.2.1 v1 11 4 kv1 (by decide) (by decide))
  have ea24 := congrArg Int32.toInt (f.2.2.1 v2 12 8 kv2 (by decide) (by decide))
  have wo := w
  refine s13_X12_stairs w bd v2 kv2 uM hruM (by have h9 := hk.1; omega)  (fun r2 Z I L w bd f cp p2 q2 => ?_)
  have ht : (I v1 4).toInt + (T : Int) = 6 := by rw [f.2.2.1 v1 11 4 kv1 (by decide) (by decide)]; exact ht
  have hlb := LB_fr f wo kuF kv2 (by decide) hlb
  have hfb := FB_fr f kuF kv2 (by decide) hfb
  have hpb := PB_fr f kv1 kuA kv2 (by decide) hpb
  have hsh : (I v2 39).toInt = -1 := by rw [f.2.2.1 v2 12 39 kv2 (by decide) (by decide)]; exact hsh
  have hm0 := MAI_fr wo hpc.2.2.2.1 hpc.2.2.2.2.1 hm1 f (by decide) (by decide) hm0
  have hv0 := PRr_fr f kv1 kuA (eMf f kv2 hruV kuV rfl (by decide)) (by decide) (by decide) hv0
  have g4 : I uB = _ := f.2.2.2 uT 10 0 uB kuT hruB (by rw [kuB.2]; rfl) rfl (by decide)
  have g5 := f.2.2.1 uT 10 1 kuT (by decide) (by decide)
  have g6 : I uM = _ := f.2.2.2 v2 12 18 uM kv2 hruM (by rw [kuM.2]; rfl) rfl (by decide)
  have er : r1.toInt = r2.toInt := by rw [p1.2.1, p2.2.1, g1, g2, ← hx.1]; exact stA_cong hx.2.2
  have hp0 := PR_stairs wo kv2 hpc hpm f qm er p1.2.1 r24 (by rw [g1, g2, ← hx.1]; exact cT_cong hx.2.2) d1 q2 ⟨p2.2.2.1, p2.2.2.2.1⟩ hpA
  have hk2 : KP2 Z I uS u62 (I v2 0).toInt.toNat := KP2_stairs fk f wk.1 kuS luS kv2 hru62 ku62 er p1.2.2.2.2 (fun c => by rw [p2.2.2.2.1 c, e01]) hkA
  have hs0 := st_stairs (Z2 := Z) (uT := uT) (j := 1) (by decide) hruX er (by rw [g1, g2, ← hx.1]; exact cT_cong hx.2.2) (f.2.2.2 uF 8 1 uX kuF hruX (by rw [kuX.2]; rfl) rfl (by decide)) eY1 hx1 e01 q1 ⟨fun c s hs => MF_st wo.1 kv2 hruY (q2.1 c) s hs, fun c => q2.2.1 c 2 uY (by decide) (by decide) hruY⟩ ⟨p2.2.2.1, p2.2.2.2.1⟩ hsA
  have hs9 := st_stairs (Z2 := Z) (uT := uT) (j := 0) (by decide) hruR er (by rw [g1, g2, ← hx.1]; exact cT_cong hx.2.2) (f.2.2.2 uF 8 0 uR kuF hruR (by rw [kuR.2]; rfl) rfl (by decide)) eR1 hx1 e01 q1 ⟨fun c s hs => MF_ri wo.1 kv2 hrvR (q2.1 c) s hs, fun c => q2.2.1 c 1 vR (by decide) (by decide) hrvR⟩ ⟨p2.2.2.1, p2.2.2.2.1⟩ hsR
  have hc0 := KC_stairs fk f wk.1 kuS luS kv2 hru62 ku62 er p1.2.2.2.2 (fun c => (p2.2.2.2.1 c).trans (congrArg Int32.toInt e01)) hcA
  have ha0 := st_stairs (Z2 := Z) (uT := uT) (j := 2) (by decide) hak.1 er (by rw [g1, g2, ← hx.1]; exact cT_cong hx.2.2) (f.2.2.2 uF 8 2 uQ kuF hak.1 (by rw [hak.2.1.2]; rfl) rfl (by decide)) eA1 hx1 e01 q1 ⟨fun c s hs => MF_ak wo.1 kv2 hak.2.2.1 (q2.1 c) s hs, fun c => q2.2.1 c 3 vQ (by decide) (by decide) hak.2.2.1⟩ ⟨p2.2.2.1, p2.2.2.2.1⟩ ha9
  have hwi := WI_stairs (uT := uT) kv2 kuF f hwi er (by rw [g1, g2, ← hx.1]; exact cT_cong hx.2.2) (f.2.2.2 uF 8 3 uW kuF hwi.1 (by rw [hwi.2.1.2]; rfl) rfl (by decide)) eW1 hx1 e01 q1 ⟨fun c s hs => MF_wi wo.1 kv2 hwi.2.2.1 (q2.1 c) s hs, fun c => q2.2.1 c 4 vW (by decide) (by decide) hwi.2.2.1⟩ ⟨p2.2.2.1, p2.2.2.2.1⟩
  have hak : AK Z I uF v2 uS u62 uQ vQ := ⟨(f.2.1 uF 8 2 kuF (by decide) (by decide)).trans hak.1, (f.1 _ _ hak.2.1).1, (f.2.1 v2 12 3 kv2 (by decide) (by decide)).trans hak.2.2.1, (f.1 _ _ hak.2.2.2.1).1, KCa_stairs fk f wk.1 kuS luS kv2 hru62 ku62 er p1.2.2.2.2 (fun c => (p2.2.2.2.1 c).trans (congrArg Int32.toInt e01)) hkc9⟩
  have g2 := congrArg Int32.toInt g2
  have g5 := congrArg Int32.toInt g5
  have hx1 := hx.1
  have hx := TBr_cut hx (g4.trans g3) (g6.trans g1) (by omega) (by omega)
  have hk := HK_stairs hk fk f kuS kv2 hruK kuK hruC kuC er p1.2.2.2.2 p2.2.2.2.2
  have ea25 := congrArg Int32.toInt (f.2.2.1 uF 8 9 kuF (by decide) (by decide))
  have ea26 := congrArg Int32.toInt (f.2.2.1 v1 11 4 kv1 (by decide) (by decide))
  have ea27 := congrArg Int32.toInt (f.2.2.1 v2 12 8 kv2 (by decide) (by decide))
  have hm1 := (f.2.1 uP 4 1 hpc.2.2.2.1 (by decide) (by decide)).trans hm1
  have hpc := PCs_x f.1 (fun a c j ka hc => f.2.1 a c j ka (by omega) (by omega)) kv1 hpc
  have hpm := PMs_x f.1 (fun j hj => f.2.1 v2 12 j kv2 (by omega) (by omega)) hpm
  have hru62 := (f.2.1 v2 12 62 kv2 (by decide) (by decide)).trans hru62
  have ku62 := (f.1 _ _ ku62).1
  have hruX := (f.2.1 uF 8 1 kuF (by decide) (by decide)).trans hruX
  have kuX := (f.1 _ _ kuX).1
  have hruY := (f.2.1 v2 12 2 kv2 (by decide) (by decide)).trans hruY
  have kuY := (f.1 _ _ kuY).1
  have hruR := (f.2.1 uF 8 0 kuF (by decide) (by decide)).trans hruR
  have kuR := (f.1 _ _ kuR).1
  have hrvR := (f.2.1 v2 12 1 kv2 (by decide) (by decide)).trans hrvR
  have kvR := (f.1 _ _ kvR).1
  have hruA := (f.2.1 v1 11 3 kv1 (by decide) (by decide)).trans hruA
  have kuA := (f.1 _ _ kuA).1
  have hruV := (f.2.1 v2 12 13 kv2 (by decide) (by decide)).trans hruV
  have kuV := (f.1 _ _ kuV).1
  have hruS := (f.2.1 v1 11 8 kv1 (by decide) (by decide)).trans hruS
  have luS := (f.1 _ _ kuS).2.trans luS
  have kuS := (f.1 _ _ kuS).1
  have hruK := (f.2.1 v2 12 63 kv2 (by decide) (by decide)).trans hruK
  have kuK := (f.1 _ _ kuK).1
  have hruC := (f.2.1 v2 12 64 kv2 (by decide) (by decide)).trans hruC
  have kuC := (f.1 _ _ kuC).1
  have hruB := (f.2.1 uT 10 0 kuT (by decide) (by decide)).trans hruB
  have hruM := (f.2.1 v2 12 18 kv2 (by decide) (by decide)).trans hruM
  have kuB := (f.1 _ _ kuB).1
  have kuM := (f.1 _ _ kuM).1
  have hruT := (f.2.1 v1 11 0 kv1 (by decide) (by decide)).trans hruT
  have kuT := (f.1 _ _ kuT).1
  have hruF := (f.2.1 v1 11 2 kv1 (by decide) (by decide)).trans hruF
  have kuF := (f.1 _ _ kuF).1
  have hl : jlen Z v3 = 1 := (f.1 _ _ kv3).2.trans hl
  have kv1 := (f.1 _ _ kv1).1
  have kv2 := (f.1 _ _ kv2).1
  have kv3 := (f.1 _ _ kv3).1
  unfold f_L_law_b1760
  intro x ex
  have tx : x.toInt = v4.toInt + 6 := by rw [ex]; exact i_add rfl (show (6 : Int32).toInt = 6 from rfl) (by omega) (by omega)
  exact hK _ _ _ x ex (LInv_mk (Z := Z) (I := I) T uT uB uM uF uS uK uC uA uV uX uY uR vR uP x0 x2 u5 u53 u54 u62 x1 uQ vQ uW vW t30 t29 u5c t6 t9 t10 t11 t12 ⟨w, bd, kv1, kv2, kv3, hl, ht, hruT, kuT, hruB, kuB, hruM⟩ ⟨kuM, hx, hruF, kuF, (by omega), (by omega), (by omega), hruS, kuS, luS, hruK, kuK⟩ ⟨hruC, kuC, hk, hruA, kuA, hruV, kuV, hv0, hruX, kuX, hruY, kuY⟩ ⟨hruR, kuR, hrvR, kvR, hs0, hc0, hs9, hpc, hpm, hru62, ku62, hp0⟩ ⟨hk2, hm1, hm0, hak, ha0, hwi, hlb, hfb, hpb, hsh⟩)
set_option maxHeartbeats 4000000 in
set_option maxRecDepth 100000 in
theorem k_b307 {xs : Nat → Int32} {Ls : Nat} {B : Nat × Nat} {K : Nat → Nat → Nat → Int32 → jZ → jI → jL → Prop} {v1 v2 v3 : Nat} {v4 : Int32} {Z : jZ} {I : jI} {L : jL} {T uT uB uM uF uS uK uC uA uV uX uY uR vR uP x0 x2 u5 u53 u54 u62 x1 uQ vQ uW vW t30 t29 u5c t6 t9 t10 t11 t12 : Nat} (g0 : LG0 B v1 v2 v3 T uT uB uM Z I) (g1 : LG1 v1 v2 v4 uT uB uM uF uS uK Z I) (g2 : LG2 v1 v2 uF uS uK uC uA uV uX uY Z I) (g3 : LG3 v1 v2 uF uS uX uY uR vR uP x0 x2 u5 u53 u54 u62 Z I) (g4 : LG4 v1 v2 uF uS uA uP x0 u62 x1 uQ vQ uW vW t30 t29 u5c t6 t9 t10 t11 t12 Z I) (hv : 0 ≤ v4.toInt ∧ v4.toInt + 6 ≤ (Ls : Int) ∧ (Ls : Int) ≤ 3072) (hK : ∀ (Z : jZ) (I : jI) (L : jL) (x : Int32), x = v4 + 6 → LInv B v1 v2 v3 x Z I → K v1 v2 v3 x Z I L) : f_L_law_b307 xs Ls B K v1 v2 v3 v4 Z I L := by
  obtain ⟨w, bd, kv1, kv2, kv3, hl, ht, hruT, kuT, hruB, kuB, hruM⟩ := g0
  obtain ⟨kuM, hx, hruF, kuF, hx1, hx2, hx3, hruS, kuS, luS, hruK, kuK⟩ := g1
  obtain ⟨hruC, kuC, hk, hruA, kuA, hruV, kuV, hv0, hruX, kuX, hruY, kuY⟩ := g2
  obtain ⟨hruR, kuR, hrvR, kvR, hs0, hc0, hs9, hpc, hpm, hru62, ku62, hp0⟩ := g3
  obtain ⟨hk2, hm1, hm0, hak, ha0, hwi, hlb, hfb, hpb, hsh⟩ := g4
  unfold f_L_law_b307
  refine ⟨vi_of (i_add rfl (show (1 : Int32).toInt = 1 from rfl) (by omega) (by omega)) (by omega) (by omega), ?_⟩
  have wo := w
  have hz0 : 0 ≤ (I uT 1).toInt := (show rg 0 80 (I uT 1) from w.fld 10 1 kuT (by decide)).1
  refine s19_X11_law w v1 _ kv1 uT hruT uB hruB hx.2.1  (fun r1 I L w f p1 q1 z1 => ?_)
  have ht : (I v1 4).toInt + (T : Int) = 6 := by rw [f.2.2.1 v1 11 4 kv1 (by decide) (by decide)]; exact ht
  have ha0 := ARr_same (f.2.2.2 uF 8 2 uQ kuF hak.1 (by rw [hak.2.1.2]; rfl) rfl (by decide)) (f.2.2.2 v2 12 3 vQ kv2 hak.2.2.1 (by rw [hak.2.2.2.1.2]; rfl) rfl (by decide)) (congrArg Int32.toInt (f.2.2.1 v2 12 0 kv2 (by decide) (by decide))) ha0
  have hwi := WI_fr f kuF kv2 (by decide) hwi
  have fk9 := f
  have wk9 := wo
  have hfb := FB_fr f kuF kv2 (by decide) hfb
  have hpb := PB_fr f kv1 kuA kv2 (by decide) hpb
  have hsh : (I v2 39).toInt = -1 := by rw [f.2.2.1 v2 12 39 kv2 (by decide) (by decide)]; exact hsh
  have hak := AK_fr f wo kuF kv2 kuS luS hru62 ku62 (by decide) hak
  have hm0 := MAI_fr wo hpc.2.2.2.1 hpc.2.2.2.2.1 hm1 f (by decide) (by decide) hm0
  have hp0 := PR_same (EQC_fr f hpc (by decide)) (EQM_fr f kv2 hpm (by decide)) hp0
  have hk2 : KP2 Z I uS u62 (I v2 0).toInt.toNat := by rw [(f.2.2.1 v2 12 0 kv2 (by decide) (by decide))]; exact KP2_fr f wo.1 kuS luS kv2 hru62 ku62 (by decide) (by decide) (by decide) hk2
  have hs0 := ARr_same (f.2.2.2 uF 8 1 uX kuF hruX (by rw [kuX.2]; rfl) rfl (by decide)) (f.2.2.2 v2 12 2 uY kv2 hruY (by rw [kuY.2]; rfl) rfl (by decide)) (congrArg Int32.toInt (f.2.2.1 v2 12 0 kv2 (by decide) (by decide))) hs0
  have hc0 := KC_fr f wo.1 kuS luS kv2 hru62 ku62 (by decide) (by decide) (by decide) (congrArg Int32.toInt (f.2.2.1 v2 12 0 kv2 (by decide) (by decide))) hc0
  have hs9 := ARr_same (f.2.2.2 uF 8 0 uR kuF hruR (by rw [kuR.2]; rfl) rfl (by decide)) (f.2.2.2 v2 12 1 vR kv2 hrvR (by rw [kvR.2]; rfl) rfl (by decide)) (congrArg Int32.toInt (f.2.2.1 v2 12 0 kv2 (by decide) (by decide))) hs9
  have hv0 := PRr_fr f kv1 kuA (eMf f kv2 hruV kuV rfl (by decide)) (by decide) (by decide) hv0
  have hk := HK_fr f kuS kv2 hruK kuK hruC kuC (by decide) (by decide) (by decide) (by decide) hk
  have g1 : I uM = _ := f.2.2.2 v2 12 18 uM kv2 hruM (by rw [kuM.2]; rfl) rfl (by decide)
  have g2 := f.2.2.1 v2 12 19 kv2 (by decide) (by decide)
  have g3 : I uB = _ := f.2.2.2 uT 10 0 uB kuT hruB (by rw [kuB.2]; rfl) rfl (by decide)
  have ea28 := congrArg Int32.toInt (f.2.2.1 uF 8 9 kuF (by decide) (by decide))
  have ea29 := congrArg Int32.toInt (f.2.2.1 v2 12 0 kv2 (by decide) (by decide))
  have ea30 := congrArg Int32.toInt (f.2.2.1 v2 12 7 kv2 (by decide) (by decide))
  have ea31 := congrArg Int32.toInt (f.2.2.1 v1 11 4 kv1 (by decide) (by decide))
  have ea32 := congrArg Int32.toInt (f.2.2.1 v2 12 8 kv2 (by decide) (by decide))
  refine ⟨vi_of (i_add rfl (show (1 : Int32).toInt = 1 from rfl) (by omega) (by omega)) (by omega) (by omega), ?_⟩
  have wo := w
  refine s19_X12_law w bd v2 _ kv2 uM hruM (fun k hk => by rw [g1, ← hx.2.2 k (by rw [hx.1, ← g2]; exact hk)]; exact hx.2.1 k)  (fun r2 Z I L w bd f cp p2 q2 z2 => ?_)
  have ht : (I v1 4).toInt + (T : Int) = 6 := by rw [f.2.2.1 v1 11 4 kv1 (by decide) (by decide)]; exact ht
  have ha0 := ARr_same (f.2.2.2 uF 8 2 uQ kuF hak.1 (by rw [hak.2.1.2]; rfl) rfl (by decide)) (f.2.2.2 v2 12 3 vQ kv2 hak.2.2.1 (by rw [hak.2.2.2.1.2]; rfl) rfl (by decide)) (congrArg Int32.toInt (f.2.2.1 v2 12 0 kv2 (by decide) (by decide))) ha0
  have hwi := WI_fr f kuF kv2 (by decide) hwi
  obtain ⟨er9, hlw9⟩ := LWR_law wk9 wo kv1 kv2 hruF kuF hlb.1 hlb.2.1 fk9 f hx.1 hx.2.2 g1 g2 q1 q2 z1 z2 hlb.2.2
  have hlb : LB Z I uF v2 t30 t29 := ⟨(f.2.1 v2 12 30 kv2 (by decide) (by decide)).trans hlb.1, (f.2.1 v2 12 29 kv2 (by decide) (by decide)).trans hlb.2.1, hlw9⟩
  have hfb := FB_fr f kuF kv2 (by decide) hfb
  have hpb := PB_fr f kv1 kuA kv2 (by decide) hpb
  have hsh : (I v2 39).toInt = -1 := by rw [f.2.2.1 v2 12 39 kv2 (by decide) (by decide)]; exact hsh
  have hak := AK_fr f wo kuF kv2 kuS luS hru62 ku62 (by decide) hak
  have hm0 := MAI_fr wo hpc.2.2.2.1 hpc.2.2.2.2.1 hm1 f (by decide) (by decide) hm0
  have hp0 := PR_same (EQC_fr f hpc (by decide)) (EQM_fr f kv2 hpm (by decide)) hp0
  have hk2 : KP2 Z I uS u62 (I v2 0).toInt.toNat := by rw [(f.2.2.1 v2 12 0 kv2 (by decide) (by decide))]; exact KP2_fr f wo.1 kuS luS kv2 hru62 ku62 (by decide) (by decide) (by decide) hk2
  have hs0 := ARr_same (f.2.2.2 uF 8 1 uX kuF hruX (by rw [kuX.2]; rfl) rfl (by decide)) (f.2.2.2 v2 12 2 uY kv2 hruY (by rw [kuY.2]; rfl) rfl (by decide)) (congrArg Int32.toInt (f.2.2.1 v2 12 0 kv2 (by decide) (by decide))) hs0
  have hc0 := KC_fr f wo.1 kuS luS kv2 hru62 ku62 (by decide) (by decide) (by decide) (congrArg Int32.toInt (f.2.2.1 v2 12 0 kv2 (by decide) (by decide))) hc0
  have hs9 := ARr_same (f.2.2.2 uF 8 0 uR kuF hruR (by rw [kuR.2]; rfl) rfl (by decide)) (f.2.2.2 v2 12 1 vR kv2 hrvR (by rw [kvR.2]; rfl) rfl (by decide)) (congrArg Int32.toInt (f.2.2.1 v2 12 0 kv2 (by decide) (by decide))) hs9
  have hv0 := PRr_fr f kv1 kuA (eMf f kv2 hruV kuV rfl (by decide)) (by decide) (by decide) hv0
  have hk := HK_fr f kuS kv2 hruK kuK hruC kuC (by decide) (by decide) (by decide) (by decide) hk
  have g4 : I uB = _ := f.2.2.2 uT 10 0 uB kuT hruB (by rw [kuB.2]; rfl) rfl (by decide)
  have g5 := f.2.2.1 uT 10 1 kuT (by decide) (by decide)
  have g6 : I uM = _ := f.2.2.2 v2 12 18 uM kv2 hruM (by rw [kuM.2]; rfl) rfl (by decide)
  have g2 := congrArg Int32.toInt g2
  have g5 := congrArg Int32.toInt g5
  have hx1 := hx.1
  have hx := TBr_cut hx (g4.trans g3) (g6.trans g1) (by omega) (by omega)
  have ea33 := congrArg Int32.toInt (f.2.2.1 uF 8 9 kuF (by decide) (by decide))
  have ea34 := congrArg Int32.toInt (f.2.2.1 v2 12 0 kv2 (by decide) (by decide))
  have ea35 := congrArg Int32.toInt (f.2.2.1 v2 12 7 kv2 (by decide) (by decide))
  have ea36 := congrArg Int32.toInt (f.2.2.1 v1 11 4 kv1 (by decide) (by decide))
  have ea37 := congrArg Int32.toInt (f.2.2.1 v2 12 8 kv2 (by decide) (by decide))
  have hm1 := (f.2.1 uP 4 1 hpc.2.2.2.1 (by decide) (by decide)).trans hm1
  have hpc := PCs_x f.1 (fun a c j ka hc => f.2.1 a c j ka (by omega) (by omega)) kv1 hpc
  have hpm := PMs_x f.1 (fun j hj => f.2.1 v2 12 j kv2 (by omega) (by omega)) hpm
  have hru62 := (f.2.1 v2 12 62 kv2 (by decide) (by decide)).trans hru62
  have ku62 := (f.1 _ _ ku62).1
  have hruX := (f.2.1 uF 8 1 kuF (by decide) (by decide)).trans hruX
  have kuX := (f.1 _ _ kuX).1
  have hruY := (f.2.1 v2 12 2 kv2 (by decide) (by decide)).trans hruY
  have kuY := (f.1 _ _ kuY).1
  have hruR := (f.2.1 uF 8 0 kuF (by decide) (by decide)).trans hruR
  have kuR := (f.1 _ _ kuR).1
  have hrvR := (f.2.1 v2 12 1 kv2 (by decide) (by decide)).trans hrvR
  have kvR := (f.1 _ _ kvR).1
  have hruA := (f.2.1 v1 11 3 kv1 (by decide) (by decide)).trans hruA
  have kuA := (f.1 _ _ kuA).1
  have hruV := (f.2.1 v2 12 13 kv2 (by decide) (by decide)).trans hruV
  have kuV := (f.1 _ _ kuV).1
  have hruS := (f.2.1 v1 11 8 kv1 (by decide) (by decide)).trans hruS
  have luS := (f.1 _ _ kuS).2.trans luS
  have kuS := (f.1 _ _ kuS).1
  have hruK := (f.2.1 v2 12 63 kv2 (by decide) (by decide)).trans hruK
  have kuK := (f.1 _ _ kuK).1
  have hruC := (f.2.1 v2 12 64 kv2 (by decide) (by decide)).trans hruC
  have kuC := (f.1 _ _ kuC).1
  have hruB := (f.2.1 uT 10 0 kuT (by decide) (by decide)).trans hruB
  have hruM := (f.2.1 v2 12 18 kv2 (by decide) (by decide)).trans hruM
  have kuB := (f.1 _ _ kuB).1
  have kuM := (f.1 _ _ kuM).1
  have hruT := (f.2.1 v1 11 0 kv1 (by decide) (by decide)).trans hruT
  have kuT := (f.1 _ _ kuT).1
  have hruF := (f.2.1 v1 11 2 kv1 (by decide) (by decide)).trans hruF
  have kuF := (f.1 _ _ kuF).1
  have hl : jlen Z v3 = 1 := (f.1 _ _ kv3).2.trans hl
  have kv1 := (f.1 _ _ kv1).1
  have kv2 := (f.1 _ _ kv2).1
  have kv3 := (f.1 _ _ kv3).1
  unfold f_L_law_b1760
  intro x ex
  have tx : x.toInt = v4.toInt + 6 := by rw [ex]; exact i_add rfl (show (6 : Int32).toInt = 6 from rfl) (by omega) (by omega)
  exact hK _ _ _ x ex (LInv_mk (Z := Z) (I := I) T uT uB uM uF uS uK uC uA uV uX uY uR vR uP x0 x2 u5 u53 u54 u62 x1 uQ vQ uW vW t30 t29 u5c t6 t9 t10 t11 t12 ⟨w, bd, kv1, kv2, kv3, hl, ht, hruT, kuT, hruB, kuB, hruM⟩ ⟨kuM, hx, hruF, kuF, (by omega), (by omega), (by omega), hruS, kuS, luS, hruK, kuK⟩ ⟨hruC, kuC, hk, hruA, kuA, hruV, kuV, hv0, hruX, kuX, hruY, kuY⟩ ⟨hruR, kuR, hrvR, kvR, hs0, hc0, hs9, hpc, hpm, hru62, ku62, hp0⟩ ⟨hk2, hm1, hm0, hak, ha0, hwi, hlb, hfb, hpb, hsh⟩)
set_option maxHeartbeats 4000000 in
set_option maxRecDepth 100000 in
theorem k_b332 {xs : Nat → Int32} {Ls : Nat} {B : Nat × Nat} {K : Nat → Nat → Nat → Int32 → jZ → jI → jL → Prop} {v1 v2 v3 : Nat} {v4 : Int32} {Z : jZ} {I : jI} {L : jL} {T uT uB uM uF uS uK uC uA uV uX uY uR vR uP x0 x2 u5 u53 u54 u62 x1 uQ vQ uW vW t30 t29 u5c t6 t9 t10 t11 t12 : Nat} (g0 : LG0 B v1 v2 v3 T uT uB uM Z I) (g1 : LG1 v1 v2 v4 uT uB uM uF uS uK Z I) (g2 : LG2 v1 v2 uF uS uK uC uA uV uX uY Z I) (g3 : LG3 v1 v2 uF uS uX uY uR vR uP x0 x2 u5 u53 u54 u62 Z I) (g4 : LG4 v1 v2 uF uS uA uP x0 u62 x1 uQ vQ uW vW t30 t29 u5c t6 t9 t10 t11 t12 Z I) (hv : 0 ≤ v4.toInt ∧ v4.toInt + 6 ≤ (Ls : Int) ∧ (Ls : Int) ≤ 3072) (hK : ∀ (Z : jZ) (I : jI) (L : jL) (x : Int32), x = v4 + 6 → LInv B v1 v2 v3 x Z I → K v1 v2 v3 x Z I L) : f_L_law_b332 xs Ls B K v1 v2 v3 v4 Z I L := by
  obtain ⟨w, bd, kv1, kv2, kv3, hl, ht, hruT, kuT, hruB, kuB, hruM⟩ := g0
  obtain ⟨kuM, hx, hruF, kuF, hx1, hx2, hx3, hruS, kuS, luS, hruK, kuK⟩ := g1
  obtain ⟨hruC, kuC, hk, hruA, kuA, hruV, kuV, hv0, hruX, kuX, hruY, kuY⟩ := g2
  obtain ⟨hruR, kuR, hrvR, kvR, hs0, hc0, hs9, hpc, hpm, hru62, ku62, hp0⟩ := g3
  obtain ⟨hk2, hm1, hm0, hak, ha0, hwi, hlb, hfb, hpb, hsh⟩ := g4
  unfold f_L_law_b332
  refine ⟨vi_of (i_add rfl (show (1 : Int32).toInt = 1 from rfl) (by omega) (by omega)) (by omega) (by omega), ?_⟩
  refine ⟨vi_of (i_add rfl (show (2 : Int32).toInt = 2 from rfl) (by omega) (by omega)) (by omega) (by omega), ?_⟩
  have hV9 := fun a b : Int32 => Iff.of_eq (congrArg (fun n => VSt n a b) hx1)
  have hf9 := fun (a b : Int32) (v : VSt (I uF 9).toInt a b) => ST_eq (M := I x1) ((hV9 a b).mp v) hs9 hs0 ha0 hwi.2.2.2.2.1 hwi.2.2.2.2.2
  refine r_L_step w v1 v3 kv1 hl hruF kuF hruR hruX hak.1 hwi.1 hpc.2.2.1 hm1 _ _ (fun r1 L q1 => ?_)
  refine ⟨vi_of (i_add rfl (show (1 : Int32).toInt = 1 from rfl) (by omega) (by omega)) (by omega) (by omega), ?_⟩
  refine ⟨vi_of (i_add rfl (show (2 : Int32).toInt = 2 from rfl) (by omega) (by omega)) (by omega) (by omega), ?_⟩
  have wo := w
  refine r_X12_step w v2 _ _ kv2 hrvR kvR hruY kuY hak.2.2.1 hak.2.2.2.1 hwi.2.2.1 hwi.2.2.2.1 hpm.1 hpm.2.1 (I x1) (MN_eq w kv2 hp0.1 hm0) (fun r2 I w f q2 => ?_)
  obtain ⟨et, ea⟩ := AN_eq (hV9 _ _) (hf9 _ _) q1 q2
  have ht : (I v1 4).toInt + (T : Int) = 6 := by rw [f.2.2.1 v1 11 4 kv1 (by decide) (by decide)]; exact ht
  have ha0 := ARr_same (f.2.2.2 uF 8 2 uQ kuF hak.1 (by rw [hak.2.1.2]; rfl) rfl (by decide)) (f.2.2.2 v2 12 3 vQ kv2 hak.2.2.1 (by rw [hak.2.2.2.1.2]; rfl) rfl (by decide)) (congrArg Int32.toInt (f.2.2.1 v2 12 0 kv2 (by decide) (by decide))) ha0
  have hwi := WI_fr f kuF kv2 (by decide) hwi
  have hlb := LB_fr f wo kuF kv2 (by decide) hlb
  have hfb := FB_fr f kuF kv2 (by decide) hfb
  have hpb := PB_fr f kv1 kuA kv2 (by decide) hpb
  have hsh : (I v2 39).toInt = -1 := by rw [f.2.2.1 v2 12 39 kv2 (by decide) (by decide)]; exact hsh
  have hak := AK_fr f wo kuF kv2 kuS luS hru62 ku62 (by decide) hak
  have hm0 := MAI_fr wo hpc.2.2.2.1 hpc.2.2.2.2.1 hm1 f (by decide) (by decide) hm0
  have hp0 := PR_same (EQC_fr f hpc (by decide)) (EQM_fr f kv2 hpm (by decide)) hp0
  have hk2 : KP2 Z I uS u62 (I v2 0).toInt.toNat := by rw [(f.2.2.1 v2 12 0 kv2 (by decide) (by decide))]; exact KP2_fr f wo.1 kuS luS kv2 hru62 ku62 (by decide) (by decide) (by decide) hk2
  have hs0 := ARr_same (f.2.2.2 uF 8 1 uX kuF hruX (by rw [kuX.2]; rfl) rfl (by decide)) (f.2.2.2 v2 12 2 uY kv2 hruY (by rw [kuY.2]; rfl) rfl (by decide)) (congrArg Int32.toInt (f.2.2.1 v2 12 0 kv2 (by decide) (by decide))) hs0
  have hc0 := KC_fr f wo.1 kuS luS kv2 hru62 ku62 (by decide) (by decide) (by decide) (congrArg Int32.toInt (f.2.2.1 v2 12 0 kv2 (by decide) (by decide))) hc0
  have hs9 := ARr_same (f.2.2.2 uF 8 0 uR kuF hruR (by rw [kuR.2]; rfl) rfl (by decide)) (f.2.2.2 v2 12 1 vR kv2 hrvR (by rw [kvR.2]; rfl) rfl (by decide)) (congrArg Int32.toInt (f.2.2.1 v2 12 0 kv2 (by decide) (by decide))) hs9
  have hv0 := PRr_fr f kv1 kuA (eMf f kv2 hruV kuV rfl (by decide)) (by decide) (by decide) hv0
  have hk := HK_fr f kuS kv2 hruK kuK hruC kuC (by decide) (by decide) (by decide) (by decide) hk
  have hx := TBr_fr f kuT hruB kuB kv2 hruM kuM (by decide) (by decide) (by decide) (by decide) hx
  have ea38 := congrArg Int32.toInt (f.2.2.1 uF 8 9 kuF (by decide) (by decide))
  have ea39 := congrArg Int32.toInt (f.2.2.1 v2 12 0 kv2 (by decide) (by decide))
  have ea40 := congrArg Int32.toInt (f.2.2.1 v2 12 7 kv2 (by decide) (by decide))
  have ea41 := congrArg Int32.toInt (f.2.2.1 v1 11 4 kv1 (by decide) (by decide))
  have ea42 := congrArg Int32.toInt (f.2.2.1 v2 12 8 kv2 (by decide) (by decide))
  have out : f_L_law_b397 xs Ls B K v1 v2 v3 v4 Z I L := by
    unfold f_L_law_b397 f_L_law_b1760
    intro x ex
    have tx : x.toInt = v4.toInt + 6 := by rw [ex]; exact i_add rfl (show (6 : Int32).toInt = 6 from rfl) (by omega) (by omega)
    exact hK _ _ _ x ex (LInv_mk (Z := Z) (I := I) T uT uB uM uF uS uK uC uA uV uX uY uR vR uP x0 x2 u5 u53 u54 u62 x1 uQ vQ uW vW t30 t29 u5c t6 t9 t10 t11 t12 ⟨w, bd, kv1, kv2, kv3, hl, ht, hruT, kuT, hruB, kuB, hruM⟩ ⟨kuM, hx, hruF, kuF, (by omega), (by omega), (by omega), hruS, kuS, luS, hruK, kuK⟩ ⟨hruC, kuC, hk, hruA, kuA, hruV, kuV, hv0, hruX, kuX, hruY, kuY⟩ ⟨hruR, kuR, hrvR, kvR, hs0, hc0, hs9, hpc, hpm, hru62, ku62, hp0⟩ ⟨hk2, hm1, hm0, hak, ha0, hwi, hlb, hfb, hpb, hsh⟩)
  unfold f_X12_thrown
  exact ⟨fun _ => ⟨fun _ => out, fun c0 => ⟨by rw [hl]; exact vp_in_lit (by decide), fun _ => out, fun c => absurd ((l_eqz rfl rfl).mpr (congrArg Int64.toInt (ea c0))) c⟩⟩, fun c => absurd et c⟩
set_option maxHeartbeats 4000000 in
set_option maxRecDepth 100000 in
theorem k_b400 {xs : Nat → Int32} {Ls : Nat} {B : Nat × Nat} {K : Nat → Nat → Nat → Int32 → jZ → jI → jL → Prop} {v1 v2 v3 : Nat} {v4 : Int32} {Z : jZ} {I : jI} {L : jL} {T uT uB uM uF uS uK uC uA uV uX uY uR vR uP x0 x2 u5 u53 u54 u62 x1 uQ vQ uW vW t30 t29 u5c t6 t9 t10 t11 t12 : Nat} (g0 : LG0 B v1 v2 v3 T uT uB uM Z I) (g1 : LG1 v1 v2 v4 uT uB uM uF uS uK Z I) (g2 : LG2 v1 v2 uF uS uK uC uA uV uX uY Z I) (g3 : LG3 v1 v2 uF uS uX uY uR vR uP x0 x2 u5 u53 u54 u62 Z I) (g4 : LG4 v1 v2 uF uS uA uP x0 u62 x1 uQ vQ uW vW t30 t29 u5c t6 t9 t10 t11 t12 Z I) (hv : 0 ≤ v4.toInt ∧ v4.toInt + 6 ≤ (Ls : Int) ∧ (Ls : Int) ≤ 3072) (hK : ∀ (Z : jZ) (I : jI) (L : jL) (x : Int32), x = v4 + 6 → LInv B v1 v2 v3 x Z I → K v1 v2 v3 x Z I L) : f_L_law_b400 xs Ls B K v1 v2 v3 v4 Z I L := by
  obtain ⟨w, bd, kv1, kv2, kv3, hl, ht, hruT, kuT, hruB, kuB, hruM⟩ := g0
  obtain ⟨kuM, hx, hruF, kuF, hx1, hx2, hx3, hruS, kuS, luS, hruK, kuK⟩ := g1
  obtain ⟨hruC, kuC, hk, hruA, kuA, hruV, kuV, hv0, hruX, kuX, hruY, kuY⟩ := g2
  obtain ⟨hruR, kuR, hrvR, kvR, hs0, hc0, hs9, hpc, hpm, hru62, ku62, hp0⟩ := g3
  obtain ⟨hk2, hm1, hm0, hak, ha0, hwi, hlb, hfb, hpb, hsh⟩ := g4
  unfold f_L_law_b400
  refine ⟨vi_of (i_add rfl (show (1 : Int32).toInt = 1 from rfl) (by omega) (by omega)) (by omega) (by omega), ?_⟩
  refine ⟨vi_of (i_add rfl (show (2 : Int32).toInt = 2 from rfl) (by omega) (by omega)) (by omega) (by omega), ?_⟩
  refine ⟨vi_of (i_add rfl (show (3 : Int32).toInt = 3 from rfl) (by omega) (by omega)) (by omega) (by omega), ?_⟩
  have wo := w
  have n24 : 0 ≤ (I v2 0).toInt ∧ (I v2 0).toInt ≤ 24 := w.fld 12 0 kv2 (by decide)
  obtain ⟨uA9, huA9, -⟩ := sh_f w.1 kuF (j := 2) (k := 14) (m := 24) rfl
  refine s13_X11_set w v1 _ _ _ kv1 uF hruF uX hruX uQ hak.1  (fun r1 I L w f p1 => ?_)
  have ht : (I v1 4).toInt + (T : Int) = 6 := by rw [f.2.2.1 v1 11 4 kv1 (by decide) (by decide)]; exact ht
  have ha9 := ha0
  have hkc9 := hak.2.2.2.2
  have eA1 : I vQ = _ := (f.2.2.2 v2 12 3 vQ kv2 hak.2.2.1 (by rw [hak.2.2.2.1.2]; rfl) rfl (by decide))
  have e01 := (f.2.2.1 v2 12 0 kv2 (by decide) (by decide))
  have hwi := WI_fr f kuF kv2 (by decide) hwi
  have hlb := LB_fr f wo kuF kv2 (by decide) hlb
  have hfb := FB_fr f kuF kv2 (by decide) hfb
  have hpb := PB_fr f kv1 kuA kv2 (by decide) hpb
  have hsh : (I v2 39).toInt = -1 := by rw [f.2.2.1 v2 12 39 kv2 (by decide) (by decide)]; exact hsh
  have hak := AK_fr f wo kuF kv2 kuS luS hru62 ku62 (by decide) hak
  have hm0 := MAI_fr wo hpc.2.2.2.1 hpc.2.2.2.2.1 hm1 f (by decide) (by decide) hm0
  have hp0 := PR_same (EQC_fr f hpc (by decide)) (EQM_fr f kv2 hpm (by decide)) hp0
  have hk2 : KP2 Z I uS u62 (I v2 0).toInt.toNat := by rw [(f.2.2.1 v2 12 0 kv2 (by decide) (by decide))]; exact KP2_fr f wo.1 kuS luS kv2 hru62 ku62 (by decide) (by decide) (by decide) hk2
  have hsA := hs0
  have hcA := hc0
  have wk := wo
  have fk := f
  have e01 := (f.2.2.1 v2 12 0 kv2 (by decide) (by decide))
  have eY1 : I uY = _ := (f.2.2.2 v2 12 2 uY kv2 hruY (by rw [kuY.2]; rfl) rfl (by decide))
  have hsR := hs9
  have eR1 : I vR = _ := (f.2.2.2 v2 12 1 vR kv2 hrvR (by rw [kvR.2]; rfl) rfl (by decide))
  have hc0 := KC_fr f wo.1 kuS luS kv2 hru62 ku62 (by decide) (by decide) (by decide) (congrArg Int32.toInt (f.2.2.1 v2 12 0 kv2 (by decide) (by decide))) hc0
  have hs9 := ARr_same (f.2.2.2 uF 8 0 uR kuF hruR (by rw [kuR.2]; rfl) rfl (by decide)) (f.2.2.2 v2 12 1 vR kv2 hrvR (by rw [kvR.2]; rfl) rfl (by decide)) (congrArg Int32.toInt (f.2.2.1 v2 12 0 kv2 (by decide) (by decide))) hs9
  have hv0 := PRr_fr f kv1 kuA (eMf f kv2 hruV kuV rfl (by decide)) (by decide) (by decide) hv0
  have hk := HK_fr f kuS kv2 hruK kuK hruC kuC (by decide) (by decide) (by decide) (by decide) hk
  have hx := TBr_fr f kuT hruB kuB kv2 hruM kuM (by decide) (by decide) (by decide) (by decide) hx
  have ea43 := congrArg Int32.toInt (f.2.2.1 uF 8 9 kuF (by decide) (by decide))
  have ea44 := congrArg Int32.toInt (f.2.2.1 v2 12 0 kv2 (by decide) (by decide))
  have ea45 := congrArg Int32.toInt (f.2.2.1 v2 12 7 kv2 (by decide) (by decide))
  have ea46 := congrArg Int32.toInt (f.2.2.1 v1 11 4 kv1 (by decide) (by decide))
  have ea47 := congrArg Int32.toInt (f.2.2.1 v2 12 8 kv2 (by decide) (by decide))
  refine ⟨vi_of (i_add rfl (show (1 : Int32).toInt = 1 from rfl) (by omega) (by omega)) (by omega) (by omega), ?_⟩
  refine ⟨vi_of (i_add rfl (show (2 : Int32).toInt = 2 from rfl) (by omega) (by omega)) (by omega) (by omega), ?_⟩
  refine ⟨vi_of (i_add rfl (show (3 : Int32).toInt = 3 from rfl) (by omega) (by omega)) (by omega) (by omega), ?_⟩
  have wo := w
  obtain ⟨uA8, huA8, -⟩ := sh_f w.1 kv2 (j := 3) (k := 14) (m := 24) rfl
  refine s13_X12_set w v2 _ _ _ kv2 uY hruY vQ hak.2.2.1  (fun r2 I L w f p2 => ?_)
  have ht : (I v1 4).toInt + (T : Int) = 6 := by rw [f.2.2.1 v1 11 4 kv1 (by decide) (by decide)]; exact ht
  obtain ⟨er9, ha0⟩ := ak_set hx1 eY1 eA1 (f.2.2.2 uF 8 2 uQ kuF hak.1 (by rw [hak.2.1.2]; rfl) rfl (by decide)) e01 (f.2.2.1 v2 12 0 kv2 (by decide) (by decide)) p1 p2 hsA ha9
  have er := congrArg Int32.toInt er9
  have hwi := WI_fr f kuF kv2 (by decide) hwi
  have hlb := LB_fr f wo kuF kv2 (by decide) hlb
  have hfb := FB_fr f kuF kv2 (by decide) hfb
  have hpb := PB_fr f kv1 kuA kv2 (by decide) hpb
  have hsh : (I v2 39).toInt = -1 := by rw [f.2.2.1 v2 12 39 kv2 (by decide) (by decide)]; exact hsh
  have hak := AK_fr f wo kuF kv2 kuS luS hru62 ku62 (by decide) hak
  have hm0 := MAI_fr wo hpc.2.2.2.1 hpc.2.2.2.2.1 hm1 f (by decide) (by decide) hm0
  have hp0 := PR_same (EQC_fr f hpc (by decide)) (EQM_fr f kv2 hpm (by decide)) hp0
  have hk2 : KP2 Z I uS u62 (I v2 0).toInt.toNat := by rw [(f.2.2.1 v2 12 0 kv2 (by decide) (by decide))]; exact KP2_fr f wo.1 kuS luS kv2 hru62 ku62 (by decide) (by decide) (by decide) hk2
  have hs0 := st_set hx1 eY1 (f.2.2.2 uF 8 1 uX kuF hruX (by rw [kuX.2]; rfl) rfl (by decide)) e01 (f.2.2.1 v2 12 0 kv2 (by decide) (by decide)) p1 p2 hsA
  have hc0 := KC_fr f wo.1 kuS luS kv2 hru62 ku62 (by decide) (by decide) (by decide) (congrArg Int32.toInt (f.2.2.1 v2 12 0 kv2 (by decide) (by decide))) hc0
  have hs9 := ARr_same (f.2.2.2 uF 8 0 uR kuF hruR (by rw [kuR.2]; rfl) rfl (by decide)) (f.2.2.2 v2 12 1 vR kv2 hrvR (by rw [kvR.2]; rfl) rfl (by decide)) (congrArg Int32.toInt (f.2.2.1 v2 12 0 kv2 (by decide) (by decide))) hs9
  have hv0 := PRr_fr f kv1 kuA (eMf f kv2 hruV kuV rfl (by decide)) (by decide) (by decide) hv0
  have hk := HK_fr f kuS kv2 hruK kuK hruC kuC (by decide) (by decide) (by decide) (by decide) hk
  have hx := TBr_fr f kuT hruB kuB kv2 hruM kuM (by decide) (by decide) (by decide) (by decide) hx
  have ea48 := congrArg Int32.toInt (f.2.2.1 uF 8 9 kuF (by decide) (by decide))
  have ea49 := congrArg Int32.toInt (f.2.2.1 v2 12 0 kv2 (by decide) (by decide))
  have ea50 := congrArg Int32.toInt (f.2.2.1 v2 12 7 kv2 (by decide) (by decide))
  have ea51 := congrArg Int32.toInt (f.2.2.1 v1 11 4 kv1 (by decide) (by decide))
  have ea52 := congrArg Int32.toInt (f.2.2.1 v2 12 8 kv2 (by decide) (by decide))
  unfold f_L_law_b1760
  intro x ex
  have tx : x.toInt = v4.toInt + 6 := by rw [ex]; exact i_add rfl (show (6 : Int32).toInt = 6 from rfl) (by omega) (by omega)
  exact hK _ _ _ x ex (LInv_mk (Z := Z) (I := I) T uT uB uM uF uS uK uC uA uV uX uY uR vR uP x0 x2 u5 u53 u54 u62 x1 uQ vQ uW vW t30 t29 u5c t6 t9 t10 t11 t12 ⟨w, bd, kv1, kv2, kv3, hl, ht, hruT, kuT, hruB, kuB, hruM⟩ ⟨kuM, hx, hruF, kuF, (by omega), (by omega), (by omega), hruS, kuS, luS, hruK, kuK⟩ ⟨hruC, kuC, hk, hruA, kuA, hruV, kuV, hv0, hruX, kuX, hruY, kuY⟩ ⟨hruR, kuR, hrvR, kvR, hs0, hc0, hs9, hpc, hpm, hru62, ku62, hp0⟩ ⟨hk2, hm1, hm0, hak, ha0, hwi, hlb, hfb, hpb, hsh⟩)
set_option maxHeartbeats 4000000 in
set_option maxRecDepth 100000 in
theorem k_b449 {xs : Nat → Int32} {Ls : Nat} {B : Nat × Nat} {K : Nat → Nat → Nat → Int32 → jZ → jI → jL → Prop} {v1 v2 v3 : Nat} {v4 : Int32} {Z : jZ} {I : jI} {L : jL} {T uT uB uM uF uS uK uC uA uV uX uY uR vR uP x0 x2 u5 u53 u54 u62 x1 uQ vQ uW vW t30 t29 u5c t6 t9 t10 t11 t12 : Nat} (g0 : LG0 B v1 v2 v3 T uT uB uM Z I) (g1 : LG1 v1 v2 v4 uT uB uM uF uS uK Z I) (g2 : LG2 v1 v2 uF uS uK uC uA uV uX uY Z I) (g3 : LG3 v1 v2 uF uS uX uY uR vR uP x0 x2 u5 u53 u54 u62 Z I) (g4 : LG4 v1 v2 uF uS uA uP x0 u62 x1 uQ vQ uW vW t30 t29 u5c t6 t9 t10 t11 t12 Z I) (hv : 0 ≤ v4.toInt ∧ v4.toInt + 6 ≤ (Ls : Int) ∧ (Ls : Int) ≤ 3072) (hK : ∀ (Z : jZ) (I : jI) (L : jL) (x : Int32), x = v4 + 6 → LInv B v1 v2 v3 x Z I → K v1 v2 v3 x Z I L) : f_L_law_b449 xs Ls B K v1 v2 v3 v4 Z I L := by
  obtain ⟨w, bd, kv1, kv2, kv3, hl, ht, hruT, kuT, hruB, kuB, hruM⟩ := g0
  obtain ⟨kuM, hx, hruF, kuF, hx1, hx2, hx3, hruS, kuS, luS, hruK, kuK⟩ := g1
  obtain ⟨hruC, kuC, hk, hruA, kuA, hruV, kuV, hv0, hruX, kuX, hruY, kuY⟩ := g2
  obtain ⟨hruR, kuR, hrvR, kvR, hs0, hc0, hs9, hpc, hpm, hru62, ku62, hp0⟩ := g3
  obtain ⟨hk2, hm1, hm0, hak, ha0, hwi, hlb, hfb, hpb, hsh⟩ := g4
  unfold f_L_law_b449
  refine ⟨vi_of (i_add rfl (show (1 : Int32).toInt = 1 from rfl) (by omega) (by omega)) (by omega) (by omega), ?_⟩
  refine ⟨vi_of (i_add rfl (show (2 : Int32).toInt = 2 from rfl) (by omega) (by omega)) (by omega) (by omega), ?_⟩
  refine ⟨vi_of (i_add rfl (show (3 : Int32).toInt = 3 from rfl) (by omega) (by omega)) (by omega) (by omega), ?_⟩
  refine ⟨vi_of (i_add rfl (show (4 : Int32).toInt = 4 from rfl) (by omega) (by omega)) (by omega) (by omega), ?_⟩
  have wo := w
  refine s20_X11_sheet w v1 _ _ _ _ kv1 uF hruF uQ hak.1  (fun r1 I L w f p1 q1 => ?_)
  have ht : (I v1 4).toInt + (T : Int) = 6 := by rw [f.2.2.1 v1 11 4 kv1 (by decide) (by decide)]; exact ht
  have ha9 := ha0
  have hkc9 := hak.2.2.2.2
  have eA1 : I vQ = _ := (f.2.2.2 v2 12 3 vQ kv2 hak.2.2.1 (by rw [hak.2.2.2.1.2]; rfl) rfl (by decide))
  have e01 := (f.2.2.1 v2 12 0 kv2 (by decide) (by decide))
  have hwi := WI_fr f kuF kv2 (by decide) hwi
  have hlb := LB_fr f wo kuF kv2 (by decide) hlb
  have hfb := FB_fr f kuF kv2 (by decide) hfb
  have hpb := PB_fr f kv1 kuA kv2 (by decide) hpb
  have hsh : (I v2 39).toInt = -1 := by rw [f.2.2.1 v2 12 39 kv2 (by decide) (by decide)]; exact hsh
  have hak := AK_fr f wo kuF kv2 kuS luS hru62 ku62 (by decide) hak
  have hm0 := MAI_fr wo hpc.2.2.2.1 hpc.2.2.2.2.1 hm1 f (by decide) (by decide) hm0
  have hp0 := PR_same (EQC_fr f hpc (by decide)) (EQM_fr f kv2 hpm (by decide)) hp0
  have hk2 : KP2 Z I uS u62 (I v2 0).toInt.toNat := by rw [(f.2.2.1 v2 12 0 kv2 (by decide) (by decide))]; exact KP2_fr f wo.1 kuS luS kv2 hru62 ku62 (by decide) (by decide) (by decide) hk2
  have hs0 := ARr_same (f.2.2.2 uF 8 1 uX kuF hruX (by rw [kuX.2]; rfl) rfl (by decide)) (f.2.2.2 v2 12 2 uY kv2 hruY (by rw [kuY.2]; rfl) rfl (by decide)) (congrArg Int32.toInt (f.2.2.1 v2 12 0 kv2 (by decide) (by decide))) hs0
  have hc0 := KC_fr f wo.1 kuS luS kv2 hru62 ku62 (by decide) (by decide) (by decide) (congrArg Int32.toInt (f.2.2.1 v2 12 0 kv2 (by decide) (by decide))) hc0
  have hs9 := ARr_same (f.2.2.2 uF 8 0 uR kuF hruR (by rw [kuR.2]; rfl) rfl (by decide)) (f.2.2.2 v2 12 1 vR kv2 hrvR (by rw [kvR.2]; rfl) rfl (by decide)) (congrArg Int32.toInt (f.2.2.1 v2 12 0 kv2 (by decide) (by decide))) hs9
  have hv0 := PRr_fr f kv1 kuA (eMf f kv2 hruV kuV rfl (by decide)) (by decide) (by decide) hv0
  have hk := HK_fr f kuS kv2 hruK kuK hruC kuC (by decide) (by decide) (by decide) (by decide) hk
  have hx := TBr_fr f kuT hruB kuB kv2 hruM kuM (by decide) (by decide) (by decide) (by decide) hx
  have ea53 := congrArg Int32.toInt (f.2.2.1 uF 8 9 kuF (by decide) (by decide))
  have ea54 := congrArg Int32.toInt (f.2.2.1 v2 12 0 kv2 (by decide) (by decide))
  have ea55 := congrArg Int32.toInt (f.2.2.1 v2 12 7 kv2 (by decide) (by decide))
  have ea56 := congrArg Int32.toInt (f.2.2.1 v1 11 4 kv1 (by decide) (by decide))
  have ea57 := congrArg Int32.toInt (f.2.2.1 v2 12 8 kv2 (by decide) (by decide))
  refine ⟨vi_of (i_add rfl (show (1 : Int32).toInt = 1 from rfl) (by omega) (by omega)) (by omega) (by omega), ?_⟩
  refine ⟨vi_of (i_add rfl (show (2 : Int32).toInt = 2 from rfl) (by omega) (by omega)) (by omega) (by omega), ?_⟩
  refine ⟨vi_of (i_add rfl (show (3 : Int32).toInt = 3 from rfl) (by omega) (by omega)) (by omega) (by omega), ?_⟩
  refine ⟨vi_of (i_add rfl (show (4 : Int32).toInt = 4 from rfl) (by omega) (by omega)) (by omega) (by omega), ?_⟩
  have wo := w
  refine s20_X12_sheet w v2 _ _ _ _ kv2 vQ hak.2.2.1  (fun r2 I L w f p2 q2 => ?_)
  have ht : (I v1 4).toInt + (T : Int) = 6 := by rw [f.2.2.1 v1 11 4 kv1 (by decide) (by decide)]; exact ht
  have ha0 := AK_sheet hx1 e01 (f.2.2.1 v2 12 0 kv2 (by decide) (by decide)) eA1 (f.2.2.2 uF 8 2 uQ kuF hak.1 (by rw [hak.2.1.2]; rfl) rfl (by decide)) q1 q2 ha9
  have hwi := WI_fr f kuF kv2 (by decide) hwi
  have hlb := LB_fr f wo kuF kv2 (by decide) hlb
  have hfb := FB_fr f kuF kv2 (by decide) hfb
  have hpb := PB_fr f kv1 kuA kv2 (by decide) hpb
  have hsh : (I v2 39).toInt = -1 := by rw [f.2.2.1 v2 12 39 kv2 (by decide) (by decide)]; exact hsh
  have hak := AK_fr f wo kuF kv2 kuS luS hru62 ku62 (by decide) hak
  have hm0 := MAI_fr wo hpc.2.2.2.1 hpc.2.2.2.2.1 hm1 f (by decide) (by decide) hm0
  have hp0 := PR_same (EQC_fr f hpc (by decide)) (EQM_fr f kv2 hpm (by decide)) hp0
  have hk2 : KP2 Z I uS u62 (I v2 0).toInt.toNat := by rw [(f.2.2.1 v2 12 0 kv2 (by decide) (by decide))]; exact KP2_fr f wo.1 kuS luS kv2 hru62 ku62 (by decide) (by decide) (by decide) hk2
  have hs0 := ARr_same (f.2.2.2 uF 8 1 uX kuF hruX (by rw [kuX.2]; rfl) rfl (by decide)) (f.2.2.2 v2 12 2 uY kv2 hruY (by rw [kuY.2]; rfl) rfl (by decide)) (congrArg Int32.toInt (f.2.2.1 v2 12 0 kv2 (by decide) (by decide))) hs0
  have hc0 := KC_fr f wo.1 kuS luS kv2 hru62 ku62 (by decide) (by decide) (by decide) (congrArg Int32.toInt (f.2.2.1 v2 12 0 kv2 (by decide) (by decide))) hc0
  have hs9 := ARr_same (f.2.2.2 uF 8 0 uR kuF hruR (by rw [kuR.2]; rfl) rfl (by decide)) (f.2.2.2 v2 12 1 vR kv2 hrvR (by rw [kvR.2]; rfl) rfl (by decide)) (congrArg Int32.toInt (f.2.2.1 v2 12 0 kv2 (by decide) (by decide))) hs9
  have hv0 := PRr_fr f kv1 kuA (eMf f kv2 hruV kuV rfl (by decide)) (by decide) (by decide) hv0
  have hk := HK_fr f kuS kv2 hruK kuK hruC kuC (by decide) (by decide) (by decide) (by decide) hk
  have hx := TBr_fr f kuT hruB kuB kv2 hruM kuM (by decide) (by decide) (by decide) (by decide) hx
  have ea58 := congrArg Int32.toInt (f.2.2.1 uF 8 9 kuF (by decide) (by decide))
  have ea59 := congrArg Int32.toInt (f.2.2.1 v2 12 0 kv2 (by decide) (by decide))
  have ea60 := congrArg Int32.toInt (f.2.2.1 v2 12 7 kv2 (by decide) (by decide))
  have ea61 := congrArg Int32.toInt (f.2.2.1 v1 11 4 kv1 (by decide) (by decide))
  have ea62 := congrArg Int32.toInt (f.2.2.1 v2 12 8 kv2 (by decide) (by decide))
  unfold f_L_law_b1760
  intro x ex
  have tx : x.toInt = v4.toInt + 6 := by rw [ex]; exact i_add rfl (show (6 : Int32).toInt = 6 from rfl) (by omega) (by omega)
  exact hK _ _ _ x ex (LInv_mk (Z := Z) (I := I) T uT uB uM uF uS uK uC uA uV uX uY uR vR uP x0 x2 u5 u53 u54 u62 x1 uQ vQ uW vW t30 t29 u5c t6 t9 t10 t11 t12 ⟨w, bd, kv1, kv2, kv3, hl, ht, hruT, kuT, hruB, kuB, hruM⟩ ⟨kuM, hx, hruF, kuF, (by omega), (by omega), (by omega), hruS, kuS, luS, hruK, kuK⟩ ⟨hruC, kuC, hk, hruA, kuA, hruV, kuV, hv0, hruX, kuX, hruY, kuY⟩ ⟨hruR, kuR, hrvR, kvR, hs0, hc0, hs9, hpc, hpm, hru62, ku62, hp0⟩ ⟨hk2, hm1, hm0, hak, ha0, hwi, hlb, hfb, hpb, hsh⟩)
set_option maxHeartbeats 4000000 in
set_option maxRecDepth 100000 in
theorem k_b510 {xs : Nat → Int32} {Ls : Nat} {B : Nat × Nat} {K : Nat → Nat → Nat → Int32 → jZ → jI → jL → Prop} {v1 v2 v3 : Nat} {v4 : Int32} {Z : jZ} {I : jI} {L : jL} {T uT uB uM uF uS uK uC uA uV uX uY uR vR uP x0 x2 u5 u53 u54 u62 x1 uQ vQ uW vW t30 t29 u5c t6 t9 t10 t11 t12 : Nat} (g0 : LG0 B v1 v2 v3 T uT uB uM Z I) (g1 : LG1 v1 v2 v4 uT uB uM uF uS uK Z I) (g2 : LG2 v1 v2 uF uS uK uC uA uV uX uY Z I) (g3 : LG3 v1 v2 uF uS uX uY uR vR uP x0 x2 u5 u53 u54 u62 Z I) (g4 : LG4 v1 v2 uF uS uA uP x0 u62 x1 uQ vQ uW vW t30 t29 u5c t6 t9 t10 t11 t12 Z I) (hv : 0 ≤ v4.toInt ∧ v4.toInt + 6 ≤ (Ls : Int) ∧ (Ls : Int) ≤ 3072) (hK : ∀ (Z : jZ) (I : jI) (L : jL) (x : Int32), x = v4 + 6 → LInv B v1 v2 v3 x Z I → K v1 v2 v3 x Z I L) : f_L_law_b510 xs Ls B K v1 v2 v3 v4 Z I L := by
  obtain ⟨w, bd, kv1, kv2, kv3, hl, ht, hruT, kuT, hruB, kuB, hruM⟩ := g0
  obtain ⟨kuM, hx, hruF, kuF, hx1, hx2, hx3, hruS, kuS, luS, hruK, kuK⟩ := g1
  obtain ⟨hruC, kuC, hk, hruA, kuA, hruV, kuV, hv0, hruX, kuX, hruY, kuY⟩ := g2
  obtain ⟨hruR, kuR, hrvR, kvR, hs0, hc0, hs9, hpc, hpm, hru62, ku62, hp0⟩ := g3
  obtain ⟨hk2, hm1, hm0, hak, ha0, hwi, hlb, hfb, hpb, hsh⟩ := g4
  unfold f_L_law_b510
  refine ⟨vi_of (i_add rfl (show (1 : Int32).toInt = 1 from rfl) (by omega) (by omega)) (by omega) (by omega), ?_⟩
  refine ⟨vi_of (i_add rfl (show (2 : Int32).toInt = 2 from rfl) (by omega) (by omega)) (by omega) (by omega), ?_⟩
  refine ⟨vi_of (i_add rfl (show (3 : Int32).toInt = 3 from rfl) (by omega) (by omega)) (by omega) (by omega), ?_⟩
  have keyz : ∀ z : Int32, ((z = 0 ∧ xs (v4 + (3 : Int32)).toNatClampNeg = 0) ∨ (z = 1 ∧ ¬ xs (v4 + (3 : Int32)).toNatClampNeg = 0)) → f_L_law_b537 xs Ls B K v1 v2 v3 v4 v1 (xs (v4 + (1 : Int32)).toNatClampNeg) (xs (v4 + (2 : Int32)).toNatClampNeg) z Z I L := by
    intro z hz9
    unfold f_L_law_b537
    have wo := w
    obtain ⟨F9, hF9s, hF9c, hF9m⟩ := hfb.2.2.2.2
    refine s21_X11_feud w v1 _ _ _ kv1 uF u5c hruF hfb.1 F9 hF9c  (fun r1 I L w f p1 => ?_)
    have ht : (I v1 4).toInt + (T : Int) = 6 := by rw [f.2.2.1 v1 11 4 kv1 (by decide) (by decide)]; exact ht
    have ha0 := ARr_same (f.2.2.2 uF 8 2 uQ kuF hak.1 (by rw [hak.2.1.2]; rfl) rfl (by decide)) (f.2.2.2 v2 12 3 vQ kv2 hak.2.2.1 (by rw [hak.2.2.2.1.2]; rfl) rfl (by decide)) (congrArg Int32.toInt (f.2.2.1 v2 12 0 kv2 (by decide) (by decide))) ha0
    have hwi := WI_fr f kuF kv2 (by decide) hwi
    have hlb := LB_fr f wo kuF kv2 (by decide) hlb
    have hF9m : FEm (I t6) F9 := by rw [(f.2.2.2 v2 12 6 t6 kv2 hfb.2.2.1 (by rw [hfb.2.2.2.1.2]; rfl) rfl (by decide))]; exact hF9m
    have hpb := PB_fr f kv1 kuA kv2 (by decide) hpb
    have hsh : (I v2 39).toInt = -1 := by rw [f.2.2.1 v2 12 39 kv2 (by decide) (by decide)]; exact hsh
    have hak := AK_fr f wo kuF kv2 kuS luS hru62 ku62 (by decide) hak
    have hm0 := MAI_fr wo hpc.2.2.2.1 hpc.2.2.2.2.1 hm1 f (by decide) (by decide) hm0
    have hp0 := PR_same (EQC_fr f hpc (by decide)) (EQM_fr f kv2 hpm (by decide)) hp0
    have hk2 : KP2 Z I uS u62 (I v2 0).toInt.toNat := by rw [(f.2.2.1 v2 12 0 kv2 (by decide) (by decide))]; exact KP2_fr f wo.1 kuS luS kv2 hru62 ku62 (by decide) (by decide) (by decide) hk2
    have hs0 := ARr_same (f.2.2.2 uF 8 1 uX kuF hruX (by rw [kuX.2]; rfl) rfl (by decide)) (f.2.2.2 v2 12 2 uY kv2 hruY (by rw [kuY.2]; rfl) rfl (by decide)) (congrArg Int32.toInt (f.2.2.1 v2 12 0 kv2 (by decide) (by decide))) hs0
    have hc0 := KC_fr f wo.1 kuS luS kv2 hru62 ku62 (by decide) (by decide) (by decide) (congrArg Int32.toInt (f.2.2.1 v2 12 0 kv2 (by decide) (by decide))) hc0
    have hs9 := ARr_same (f.2.2.2 uF 8 0 uR kuF hruR (by rw [kuR.2]; rfl) rfl (by decide)) (f.2.2.2 v2 12 1 vR kv2 hrvR (by rw [kvR.2]; rfl) rfl (by decide)) (congrArg Int32.toInt (f.2.2.1 v2 12 0 kv2 (by decide) (by decide))) hs9
    have hv0 := PRr_fr f kv1 kuA (eMf f kv2 hruV kuV rfl (by decide)) (by decide) (by decide) hv0
    have hk := HK_fr f kuS kv2 hruK kuK hruC kuC (by decide) (by decide) (by decide) (by decide) hk
    have hx := TBr_fr f kuT hruB kuB kv2 hruM kuM (by decide) (by decide) (by decide) (by decide) hx
    have ea63 := congrArg Int32.toInt (f.2.2.1 uF 8 9 kuF (by decide) (by decide))
    have ea64 := congrArg Int32.toInt (f.2.2.1 v2 12 0 kv2 (by decide) (by decide))
    have ea65 := congrArg Int32.toInt (f.2.2.1 v2 12 7 kv2 (by decide) (by decide))
    have ea66 := congrArg Int32.toInt (f.2.2.1 v1 11 4 kv1 (by decide) (by decide))
    have ea67 := congrArg Int32.toInt (f.2.2.1 v2 12 8 kv2 (by decide) (by decide))
    refine ⟨vi_of (i_add rfl (show (1 : Int32).toInt = 1 from rfl) (by omega) (by omega)) (by omega) (by omega), ?_⟩
    refine ⟨vi_of (i_add rfl (show (2 : Int32).toInt = 2 from rfl) (by omega) (by omega)) (by omega) (by omega), ?_⟩
    refine ⟨vi_of (i_add rfl (show (3 : Int32).toInt = 3 from rfl) (by omega) (by omega)) (by omega) (by omega), ?_⟩
    have keyy : ∀ y : Int32, ((y = 0 ∧ xs (v4 + (3 : Int32)).toNatClampNeg = 0) ∨ (y = 1 ∧ ¬ xs (v4 + (3 : Int32)).toNatClampNeg = 0)) → f_L_law_b568 xs Ls B K v1 v2 v3 v4 v2 (xs (v4 + (1 : Int32)).toNatClampNeg) (xs (v4 + (2 : Int32)).toNatClampNeg) y Z I L := by
      intro y hy9
      unfold f_L_law_b568
      have wo := w
      refine s21_X12_feud w v2 _ _ _ kv2 (hy9.imp And.left And.left) t6 hfb.2.2.1 F9 hF9m  (fun r2 I L w f p2 => ?_)
      have ht : (I v1 4).toInt + (T : Int) = 6 := by rw [f.2.2.1 v1 11 4 kv1 (by decide) (by decide)]; exact ht
      have ha0 := ARr_same (f.2.2.2 uF 8 2 uQ kuF hak.1 (by rw [hak.2.1.2]; rfl) rfl (by decide)) (f.2.2.2 v2 12 3 vQ kv2 hak.2.2.1 (by rw [hak.2.2.2.1.2]; rfl) rfl (by decide)) (congrArg Int32.toInt (f.2.2.1 v2 12 0 kv2 (by decide) (by decide))) ha0
      have hwi := WI_fr f kuF kv2 (by decide) hwi
      have hlb := LB_fr f wo kuF kv2 (by decide) hlb
      have ezy : z = y := by rcases hz9 with ⟨a9, b9⟩ | ⟨a9, b9⟩ <;> rcases hy9 with ⟨c9, d9⟩ | ⟨c9, d9⟩ <;> first | exact a9.trans c9.symm | exact absurd d9 b9 | exact absurd b9 d9
      rw [ezy] at p1
      obtain ⟨er9, hfb⟩ := FB_feud (I0 := I) hF9s hfb.1 hfb.2.1 hfb.2.2.1 hfb.2.2.2.1 kuF f p1 p2
      have hpb := PB_fr f kv1 kuA kv2 (by decide) hpb
      have hsh : (I v2 39).toInt = -1 := by rw [f.2.2.1 v2 12 39 kv2 (by decide) (by decide)]; exact hsh
      have hak := AK_fr f wo kuF kv2 kuS luS hru62 ku62 (by decide) hak
      have hm0 := MAI_fr wo hpc.2.2.2.1 hpc.2.2.2.2.1 hm1 f (by decide) (by decide) hm0
      have hp0 := PR_same (EQC_fr f hpc (by decide)) (EQM_fr f kv2 hpm (by decide)) hp0
      have hk2 : KP2 Z I uS u62 (I v2 0).toInt.toNat := by rw [(f.2.2.1 v2 12 0 kv2 (by decide) (by decide))]; exact KP2_fr f wo.1 kuS luS kv2 hru62 ku62 (by decide) (by decide) (by decide) hk2
      have hs0 := ARr_same (f.2.2.2 uF 8 1 uX kuF hruX (by rw [kuX.2]; rfl) rfl (by decide)) (f.2.2.2 v2 12 2 uY kv2 hruY (by rw [kuY.2]; rfl) rfl (by decide)) (congrArg Int32.toInt (f.2.2.1 v2 12 0 kv2 (by decide) (by decide))) hs0
      have hc0 := KC_fr f wo.1 kuS luS kv2 hru62 ku62 (by decide) (by decide) (by decide) (congrArg Int32.toInt (f.2.2.1 v2 12 0 kv2 (by decide) (by decide))) hc0
      have hs9 := ARr_same (f.2.2.2 uF 8 0 uR kuF hruR (by rw [kuR.2]; rfl) rfl (by decide)) (f.2.2.2 v2 12 1 vR kv2 hrvR (by rw [kvR.2]; rfl) rfl (by decide)) (congrArg Int32.toInt (f.2.2.1 v2 12 0 kv2 (by decide) (by decide))) hs9
      have hv0 := PRr_fr f kv1 kuA (eMf f kv2 hruV kuV rfl (by decide)) (by decide) (by decide) hv0
      have hk := HK_fr f kuS kv2 hruK kuK hruC kuC (by decide) (by decide) (by decide) (by decide) hk
      have hx := TBr_fr f kuT hruB kuB kv2 hruM kuM (by decide) (by decide) (by decide) (by decide) hx
      have ea68 := congrArg Int32.toInt (f.2.2.1 uF 8 9 kuF (by decide) (by decide))
      have ea69 := congrArg Int32.toInt (f.2.2.1 v2 12 0 kv2 (by decide) (by decide))
      have ea70 := congrArg Int32.toInt (f.2.2.1 v2 12 7 kv2 (by decide) (by decide))
      have ea71 := congrArg Int32.toInt (f.2.2.1 v1 11 4 kv1 (by decide) (by decide))
      have ea72 := congrArg Int32.toInt (f.2.2.1 v2 12 8 kv2 (by decide) (by decide))
      unfold f_L_law_b1760
      intro x ex
      have tx : x.toInt = v4.toInt + 6 := by rw [ex]; exact i_add rfl (show (6 : Int32).toInt = 6 from rfl) (by omega) (by omega)
      exact hK _ _ _ x ex (LInv_mk (Z := Z) (I := I) T uT uB uM uF uS uK uC uA uV uX uY uR vR uP x0 x2 u5 u53 u54 u62 x1 uQ vQ uW vW t30 t29 u5c t6 t9 t10 t11 t12 ⟨w, bd, kv1, kv2, kv3, hl, ht, hruT, kuT, hruB, kuB, hruM⟩ ⟨kuM, hx, hruF, kuF, (by omega), (by omega), (by omega), hruS, kuS, luS, hruK, kuK⟩ ⟨hruC, kuC, hk, hruA, kuA, hruV, kuV, hv0, hruX, kuX, hruY, kuY⟩ ⟨hruR, kuR, hrvR, kvR, hs0, hc0, hs9, hpc, hpm, hru62, ku62, hp0⟩ ⟨hk2, hm1, hm0, hak, ha0, hwi, hlb, hfb, hpb, hsh⟩)
    exact ⟨fun c => keyy 0 (Or.inl ⟨rfl, c⟩), fun c => keyy 1 (Or.inr ⟨rfl, c⟩)⟩
  exact ⟨fun c => keyz 0 (Or.inl ⟨rfl, c⟩), fun c => keyz 1 (Or.inr ⟨rfl, c⟩)⟩
set_option maxHeartbeats 4000000 in
set_option maxRecDepth 100000 in
theorem k_b575 {xs : Nat → Int32} {Ls : Nat} {B : Nat × Nat} {K : Nat → Nat → Nat → Int32 → jZ → jI → jL → Prop} {v1 v2 v3 : Nat} {v4 : Int32} {Z : jZ} {I : jI} {L : jL} {T uT uB uM uF uS uK uC uA uV uX uY uR vR uP x0 x2 u5 u53 u54 u62 x1 uQ vQ uW vW t30 t29 u5c t6 t9 t10 t11 t12 : Nat} (g0 : LG0 B v1 v2 v3 T uT uB uM Z I) (g1 : LG1 v1 v2 v4 uT uB uM uF uS uK Z I) (g2 : LG2 v1 v2 uF uS uK uC uA uV uX uY Z I) (g3 : LG3 v1 v2 uF uS uX uY uR vR uP x0 x2 u5 u53 u54 u62 Z I) (g4 : LG4 v1 v2 uF uS uA uP x0 u62 x1 uQ vQ uW vW t30 t29 u5c t6 t9 t10 t11 t12 Z I) (hv : 0 ≤ v4.toInt ∧ v4.toInt + 6 ≤ (Ls : Int) ∧ (Ls : Int) ≤ 3072) (hK : ∀ (Z : jZ) (I : jI) (L : jL) (x : Int32), x = v4 + 6 → LInv B v1 v2 v3 x Z I → K v1 v2 v3 x Z I L) : f_L_law_b575 xs Ls B K v1 v2 v3 v4 Z I L := by
  obtain ⟨w, bd, kv1, kv2, kv3, hl, ht, hruT, kuT, hruB, kuB, hruM⟩ := g0
  obtain ⟨kuM, hx, hruF, kuF, hx1, hx2, hx3, hruS, kuS, luS, hruK, kuK⟩ := g1
  obtain ⟨hruC, kuC, hk, hruA, kuA, hruV, kuV, hv0, hruX, kuX, hruY, kuY⟩ := g2
  obtain ⟨hruR, kuR, hrvR, kvR, hs0, hc0, hs9, hpc, hpm, hru62, ku62, hp0⟩ := g3
  obtain ⟨hk2, hm1, hm0, hak, ha0, hwi, hlb, hfb, hpb, hsh⟩ := g4
  unfold f_L_law_b575
  refine ⟨vi_of (i_add rfl (show (1 : Int32).toInt = 1 from rfl) (by omega) (by omega)) (by omega) (by omega), ?_⟩
  have wo := w
  have n24 : 0 ≤ (I v2 0).toInt ∧ (I v2 0).toInt ≤ 24 := w.fld 12 0 kv2 (by decide)
  have hb9 : ∀ s : Nat, (s : Int) < (I uF 9).toInt → 0 ≤ (I uX s).toInt ∧ (I uX s).toInt ≤ 9 := fun s h => by rw [hs0 s (by omega)]; exact w.arr 12 2 kv2 hruY kuY rfl rfl s
  refine s13_X11_wears w v1 _ kv1 uF hruF uX hruX hb9  (fun r1 I L w f p1 => ?_)
  have ht : (I v1 4).toInt + (T : Int) = 6 := by rw [f.2.2.1 v1 11 4 kv1 (by decide) (by decide)]; exact ht
  have ha0 := ARr_same (f.2.2.2 uF 8 2 uQ kuF hak.1 (by rw [hak.2.1.2]; rfl) rfl (by decide)) (f.2.2.2 v2 12 3 vQ kv2 hak.2.2.1 (by rw [hak.2.2.2.1.2]; rfl) rfl (by decide)) (congrArg Int32.toInt (f.2.2.1 v2 12 0 kv2 (by decide) (by decide))) ha0
  have hwi := WI_fr f kuF kv2 (by decide) hwi
  have hlb := LB_fr f wo kuF kv2 (by decide) hlb
  have hfb := FB_fr f kuF kv2 (by decide) hfb
  have hpb := PB_fr f kv1 kuA kv2 (by decide) hpb
  have hsh : (I v2 39).toInt = -1 := by rw [f.2.2.1 v2 12 39 kv2 (by decide) (by decide)]; exact hsh
  have hak := AK_fr f wo kuF kv2 kuS luS hru62 ku62 (by decide) hak
  have hm0 := MAI_fr wo hpc.2.2.2.1 hpc.2.2.2.2.1 hm1 f (by decide) (by decide) hm0
  have hp0 := PR_same (EQC_fr f hpc (by decide)) (EQM_fr f kv2 hpm (by decide)) hp0
  have hk2 : KP2 Z I uS u62 (I v2 0).toInt.toNat := by rw [(f.2.2.1 v2 12 0 kv2 (by decide) (by decide))]; exact KP2_fr f wo.1 kuS luS kv2 hru62 ku62 (by decide) (by decide) (by decide) hk2
  have hsA := hs0
  have hcA := hc0
  have wk := wo
  have fk := f
  have e01 := (f.2.2.1 v2 12 0 kv2 (by decide) (by decide))
  have eY1 : I uY = _ := (f.2.2.2 v2 12 2 uY kv2 hruY (by rw [kuY.2]; rfl) rfl (by decide))
  have hsR := hs9
  have eR1 : I vR = _ := (f.2.2.2 v2 12 1 vR kv2 hrvR (by rw [kvR.2]; rfl) rfl (by decide))
  have hc0 := KC_fr f wo.1 kuS luS kv2 hru62 ku62 (by decide) (by decide) (by decide) (congrArg Int32.toInt (f.2.2.1 v2 12 0 kv2 (by decide) (by decide))) hc0
  have hs9 := ARr_same (f.2.2.2 uF 8 0 uR kuF hruR (by rw [kuR.2]; rfl) rfl (by decide)) (f.2.2.2 v2 12 1 vR kv2 hrvR (by rw [kvR.2]; rfl) rfl (by decide)) (congrArg Int32.toInt (f.2.2.1 v2 12 0 kv2 (by decide) (by decide))) hs9
  have hv0 := PRr_fr f kv1 kuA (eMf f kv2 hruV kuV rfl (by decide)) (by decide) (by decide) hv0
  have hk := HK_fr f kuS kv2 hruK kuK hruC kuC (by decide) (by decide) (by decide) (by decide) hk
  have hx := TBr_fr f kuT hruB kuB kv2 hruM kuM (by decide) (by decide) (by decide) (by decide) hx
  have ea73 := congrArg Int32.toInt (f.2.2.1 uF 8 9 kuF (by decide) (by decide))
  have ea74 := congrArg Int32.toInt (f.2.2.1 v2 12 0 kv2 (by decide) (by decide))
  have ea75 := congrArg Int32.toInt (f.2.2.1 v2 12 7 kv2 (by decide) (by decide))
  have ea76 := congrArg Int32.toInt (f.2.2.1 v1 11 4 kv1 (by decide) (by decide))
  have ea77 := congrArg Int32.toInt (f.2.2.1 v2 12 8 kv2 (by decide) (by decide))
  refine ⟨vi_of (i_add rfl (show (1 : Int32).toInt = 1 from rfl) (by omega) (by omega)) (by omega) (by omega), ?_⟩
  have wo := w
  refine s13_X12_wears w v2 _ kv2 uY hruY  (fun r2 I L w f p2 => ?_)
  have ht : (I v1 4).toInt + (T : Int) = 6 := by rw [f.2.2.1 v1 11 4 kv1 (by decide) (by decide)]; exact ht
  have ha0 := ARr_same (f.2.2.2 uF 8 2 uQ kuF hak.1 (by rw [hak.2.1.2]; rfl) rfl (by decide)) (f.2.2.2 v2 12 3 vQ kv2 hak.2.2.1 (by rw [hak.2.2.2.1.2]; rfl) rfl (by decide)) (congrArg Int32.toInt (f.2.2.1 v2 12 0 kv2 (by decide) (by decide))) ha0
  have hwi := WI_fr f kuF kv2 (by decide) hwi
  have hlb := LB_fr f wo kuF kv2 (by decide) hlb
  have hfb := FB_fr f kuF kv2 (by decide) hfb
  have hpb := PB_fr f kv1 kuA kv2 (by decide) hpb
  have hsh : (I v2 39).toInt = -1 := by rw [f.2.2.1 v2 12 39 kv2 (by decide) (by decide)]; exact hsh
  have hak := AK_fr f wo kuF kv2 kuS luS hru62 ku62 (by decide) hak
  have hm0 := MAI_fr wo hpc.2.2.2.1 hpc.2.2.2.2.1 hm1 f (by decide) (by decide) hm0
  have hp0 := PR_same (EQC_fr f hpc (by decide)) (EQM_fr f kv2 hpm (by decide)) hp0
  have hk2 : KP2 Z I uS u62 (I v2 0).toInt.toNat := by rw [(f.2.2.1 v2 12 0 kv2 (by decide) (by decide))]; exact KP2_fr f wo.1 kuS luS kv2 hru62 ku62 (by decide) (by decide) (by decide) hk2
  obtain ⟨er, hs0⟩ := st_wears n24.1 hx1 eY1 (f.2.2.2 uF 8 1 uX kuF hruX (by rw [kuX.2]; rfl) rfl (by decide)) e01 (f.2.2.1 v2 12 0 kv2 (by decide) (by decide)) p1 p2 hsA
  have hc0 := KC_fr f wo.1 kuS luS kv2 hru62 ku62 (by decide) (by decide) (by decide) (congrArg Int32.toInt (f.2.2.1 v2 12 0 kv2 (by decide) (by decide))) hc0
  have hs9 := ARr_same (f.2.2.2 uF 8 0 uR kuF hruR (by rw [kuR.2]; rfl) rfl (by decide)) (f.2.2.2 v2 12 1 vR kv2 hrvR (by rw [kvR.2]; rfl) rfl (by decide)) (congrArg Int32.toInt (f.2.2.1 v2 12 0 kv2 (by decide) (by decide))) hs9
  have hv0 := PRr_fr f kv1 kuA (eMf f kv2 hruV kuV rfl (by decide)) (by decide) (by decide) hv0
  have hk := HK_fr f kuS kv2 hruK kuK hruC kuC (by decide) (by decide) (by decide) (by decide) hk
  have hx := TBr_fr f kuT hruB kuB kv2 hruM kuM (by decide) (by decide) (by decide) (by decide) hx
  have ea78 := congrArg Int32.toInt (f.2.2.1 uF 8 9 kuF (by decide) (by decide))
  have ea79 := congrArg Int32.toInt (f.2.2.1 v2 12 0 kv2 (by decide) (by decide))
  have ea80 := congrArg Int32.toInt (f.2.2.1 v2 12 7 kv2 (by decide) (by decide))
  have ea81 := congrArg Int32.toInt (f.2.2.1 v1 11 4 kv1 (by decide) (by decide))
  have ea82 := congrArg Int32.toInt (f.2.2.1 v2 12 8 kv2 (by decide) (by decide))
  unfold f_L_law_b1760
  intro x ex
  have tx : x.toInt = v4.toInt + 6 := by rw [ex]; exact i_add rfl (show (6 : Int32).toInt = 6 from rfl) (by omega) (by omega)
  exact hK _ _ _ x ex (LInv_mk (Z := Z) (I := I) T uT uB uM uF uS uK uC uA uV uX uY uR vR uP x0 x2 u5 u53 u54 u62 x1 uQ vQ uW vW t30 t29 u5c t6 t9 t10 t11 t12 ⟨w, bd, kv1, kv2, kv3, hl, ht, hruT, kuT, hruB, kuB, hruM⟩ ⟨kuM, hx, hruF, kuF, (by omega), (by omega), (by omega), hruS, kuS, luS, hruK, kuK⟩ ⟨hruC, kuC, hk, hruA, kuA, hruV, kuV, hv0, hruX, kuX, hruY, kuY⟩ ⟨hruR, kuR, hrvR, kvR, hs0, hc0, hs9, hpc, hpm, hru62, ku62, hp0⟩ ⟨hk2, hm1, hm0, hak, ha0, hwi, hlb, hfb, hpb, hsh⟩)
set_option maxHeartbeats 4000000 in
set_option maxRecDepth 100000 in
theorem k_b600 {xs : Nat → Int32} {Ls : Nat} {B : Nat × Nat} {K : Nat → Nat → Nat → Int32 → jZ → jI → jL → Prop} {v1 v2 v3 : Nat} {v4 : Int32} {Z : jZ} {I : jI} {L : jL} {T uT uB uM uF uS uK uC uA uV uX uY uR vR uP x0 x2 u5 u53 u54 u62 x1 uQ vQ uW vW t30 t29 u5c t6 t9 t10 t11 t12 : Nat} (g0 : LG0 B v1 v2 v3 T uT uB uM Z I) (g1 : LG1 v1 v2 v4 uT uB uM uF uS uK Z I) (g2 : LG2 v1 v2 uF uS uK uC uA uV uX uY Z I) (g3 : LG3 v1 v2 uF uS uX uY uR vR uP x0 x2 u5 u53 u54 u62 Z I) (g4 : LG4 v1 v2 uF uS uA uP x0 u62 x1 uQ vQ uW vW t30 t29 u5c t6 t9 t10 t11 t12 Z I) (hv : 0 ≤ v4.toInt ∧ v4.toInt + 6 ≤ (Ls : Int) ∧ (Ls : Int) ≤ 3072) (hK : ∀ (Z : jZ) (I : jI) (L : jL) (x : Int32), x = v4 + 6 → LInv B v1 v2 v3 x Z I → K v1 v2 v3 x Z I L) : f_L_law_b600 xs Ls B K v1 v2 v3 v4 Z I L := by
  obtain ⟨w, bd, kv1, kv2, kv3, hl, ht, hruT, kuT, hruB, kuB, hruM⟩ := g0
  obtain ⟨kuM, hx, hruF, kuF, hx1, hx2, hx3, hruS, kuS, luS, hruK, kuK⟩ := g1
  obtain ⟨hruC, kuC, hk, hruA, kuA, hruV, kuV, hv0, hruX, kuX, hruY, kuY⟩ := g2
  obtain ⟨hruR, kuR, hrvR, kvR, hs0, hc0, hs9, hpc, hpm, hru62, ku62, hp0⟩ := g3
  obtain ⟨hk2, hm1, hm0, hak, ha0, hwi, hlb, hfb, hpb, hsh⟩ := g4
  unfold f_L_law_b600
  refine ⟨vi_of (i_add rfl (show (1 : Int32).toInt = 1 from rfl) (by omega) (by omega)) (by omega) (by omega), ?_⟩
  refine ⟨vi_of (i_add rfl (show (2 : Int32).toInt = 2 from rfl) (by omega) (by omega)) (by omega) (by omega), ?_⟩
  refine ⟨vi_of (i_add rfl (show (3 : Int32).toInt = 3 from rfl) (by omega) (by omega)) (by omega) (by omega), ?_⟩
  refine ⟨vi_of (i_add rfl (show (4 : Int32).toInt = 4 from rfl) (by omega) (by omega)) (by omega) (by omega), ?_⟩
  have wo := w
  have kv2o := kv2
  have kuFo := kuF
  refine s22_X11_pilgrim w bd v1 _ _ _ _ kv1 ht uF uA hruF hruA (fun r1 Z I L T w bd ht hxt hjl f p1 n1 rt9 => ?_)
  have w9p := w
  have ha0 := ARr_same (funext fun i => f.2 uQ 14 i hak.2.1 (by omega)) (funext fun i => f.2 vQ 14 i hak.2.2.2.1 (by omega)) (congrArg Int32.toInt (f.2 v2 12 0 kv2 (by decide))) ha0
  have hak := AK_frp f hxt wo kuF kv2 kuS luS ku62 hak
  have hwi := WI_frp f hxt kuF kv2 hwi
  have hlb : LB Z I uF v2 t30 t29 := ⟨(f.1 v2 12 30 kv2 (by decide)).trans hlb.1, (f.1 v2 12 29 kv2 (by decide)).trans hlb.2.1, LWR_frp wo kuF kv2 hlb.1 hlb.2.1 f hlb.2.2⟩
  have hfb := FB_frp f hxt kuF kv2 hfb
  have hsh : (I v2 39).toInt = -1 := by rw [f.2 v2 12 39 kv2 (by decide)]; exact hsh
  have kuAo := kuA
  have fo := f
  have p1o := p1
  have kv1o := kv1
  have kv2o := kv2
  have hruAo := hruA
  have kuVo := kuV
  have hruVo := hruV
  have hruA := (f.1 v1 11 3 kv1 (by decide)).trans hruA
  have kuA := (hxt _ _ kuA).1
  have hruV := (f.1 v2 12 13 kv2 (by decide)).trans hruV
  have kuV := (hxt _ _ kuV).1
  unfold PSp FITp at p1
  have hx := TBr_frp f kuT kuB kv2 kuM hx
  have hruB := (f.1 uT 10 0 kuT (by decide)).trans hruB
  have hruM := (f.1 v2 12 18 kv2 (by decide)).trans hruM
  have kuB := (hxt _ _ kuB).1
  have kuM := (hxt _ _ kuM).1
  have hruT := (f.1 v1 11 0 kv1 (by decide)).trans hruT
  have kuT := (hxt _ _ kuT).1
  have ea83 := congrArg Int32.toInt (f.2 uF 8 9 kuF (by decide))
  have ea84 := congrArg Int32.toInt (f.2 v2 12 0 kv2 (by decide))
  have hruF := (f.1 v1 11 2 kv1 (by decide)).trans hruF
  have kuF := (hxt _ _ kuF).1
  have ea85 := congrArg Int32.toInt (f.2 v2 12 7 kv2 (by decide))
  have ea86 := congrArg Int32.toInt (f.2 v2 12 8 kv2 (by decide))
  have hs0 := ARr_same (funext fun i => f.2 uX 14 i kuX (by omega)) (funext fun i => f.2 uY 14 i kuY (by omega)) (congrArg Int32.toInt (f.2 v2 12 0 kv2o (by decide))) hs0
  have hs9 := ARr_same (funext fun i => f.2 uR 14 i kuR (by omega)) (funext fun i => f.2 vR 14 i kvR (by omega)) (congrArg Int32.toInt (f.2 v2 12 0 kv2o (by decide))) hs9
  have hc0 := KC_frp (v2 := v2) f wo.1 kuS luS ku62 (congrArg Int32.toInt (f.2 v2 12 0 kv2o (by decide))) hc0
  have hruX := (f.1 uF 8 1 kuFo (by decide)).trans hruX
  have kuX := (hxt _ _ kuX).1
  have hruY := (f.1 v2 12 2 kv2o (by decide)).trans hruY
  have kuY := (hxt _ _ kuY).1
  have hruR := (f.1 uF 8 0 kuFo (by decide)).trans hruR
  have kuR := (hxt _ _ kuR).1
  have hrvR := (f.1 v2 12 1 kv2o (by decide)).trans hrvR
  have kvR := (hxt _ _ kvR).1
  have hm0 := MAI_frp wo hpc.2.2.2.1 hpc.2.2.2.2.1 hm1 f hm0
  have hm1 := (f.1 uP 4 1 hpc.2.2.2.1 (by decide)).trans hm1
  have hp0 := PR_same (EQC_frp f hpc) (EQM_frp f kv2 hpm) hp0
  have hk2 : KP2 Z I uS u62 (I v2 0).toInt.toNat := by rw [f.2 v2 12 0 kv2 (by decide)]; exact KP2_frp f wo.1 kuS luS ku62 hk2
  have hpc := PCs_x hxt (fun a c j ka hc => f.1 a c j ka (by omega)) kv1 hpc
  have hpm := PMs_x hxt (fun j hj => f.1 v2 12 j kv2 (by decide)) hpm
  have hru62 := (f.1 v2 12 62 kv2 (by decide)).trans hru62
  have ku62 := (hxt _ _ ku62).1
  have hk := HK_frp f hxt kuS kv2 kuK kuC hk
  have hruS := (f.1 v1 11 8 kv1 (by decide)).trans hruS
  have luS := (hxt _ _ kuS).2.trans luS
  have kuS := (hxt _ _ kuS).1
  have hruK := (f.1 v2 12 63 kv2 (by decide)).trans hruK
  have kuK := (hxt _ _ kuK).1
  have hruC := (f.1 v2 12 64 kv2 (by decide)).trans hruC
  have kuC := (hxt _ _ kuC).1
  have hl : jlen Z v3 = 1 := (hxt _ _ kv3).2.trans hl
  have kv1 := (hxt _ _ kv1).1
  have kv2 := (hxt _ _ kv2).1
  have kv3 := (hxt _ _ kv3).1
  refine ⟨⟨hjl, BUD.jin bd⟩, ?_⟩
  refine ⟨vi_of (i_add rfl (show (1 : Int32).toInt = 1 from rfl) (by omega) (by omega)) (by omega) (by omega), ?_⟩
  refine ⟨vi_of (i_add rfl (show (2 : Int32).toInt = 2 from rfl) (by omega) (by omega)) (by omega) (by omega), ?_⟩
  refine ⟨vi_of (i_add rfl (show (3 : Int32).toInt = 3 from rfl) (by omega) (by omega)) (by omega) (by omega), ?_⟩
  refine ⟨vi_of (i_add rfl (show (4 : Int32).toInt = 4 from rfl) (by omega) (by omega)) (by omega) (by omega), ?_⟩
  have wo := w
  refine m12_X12_pilgrim w v2 _ _ _ _ kv2  (fun r2 I L w f p2 n2 => ?_)
  have ht : (I v1 4).toInt + (T : Int) = 6 := by rw [f.2.2.1 v1 11 4 kv1 (by decide) (by decide)]; exact ht
  unfold FITp at p2
  have er : r1.toInt = r2.toInt := by omega
  have ha0 := ARr_same (f.2.2.2 uF 8 2 uQ kuF hak.1 (by rw [hak.2.1.2]; rfl) rfl (by decide)) (f.2.2.2 v2 12 3 vQ kv2 hak.2.2.1 (by rw [hak.2.2.2.1.2]; rfl) rfl (by decide)) (congrArg Int32.toInt (f.2.2.1 v2 12 0 kv2 (by decide) (by decide))) ha0
  have hwi := WI_fr f kuF kv2 (by decide) hwi
  have hlb := LB_fr f wo kuF kv2 (by decide) hlb
  have hfb := FB_fr f kuF kv2 (by decide) hfb
  have hpb := PB_pil hpb hxt w9p fo n1 p1o rt9 f n2 er hx3 kv1o kv2o hruAo kuAo (by decide)
  have hsh : (I v2 39).toInt = -1 := by rw [f.2.2.1 v2 12 39 kv2 (by decide) (by decide)]; exact hsh
  have hak := AK_fr f wo kuF kv2 kuS luS hru62 ku62 (by decide) hak
  have hm0 := MAI_fr wo hpc.2.2.2.1 hpc.2.2.2.2.1 hm1 f (by decide) (by decide) hm0
  have hp0 := PR_same (EQC_fr f hpc (by decide)) (EQM_fr f kv2 hpm (by decide)) hp0
  have hk2 : KP2 Z I uS u62 (I v2 0).toInt.toNat := by rw [(f.2.2.1 v2 12 0 kv2 (by decide) (by decide))]; exact KP2_fr f wo.1 kuS luS kv2 hru62 ku62 (by decide) (by decide) (by decide) hk2
  have hs0 := ARr_same (f.2.2.2 uF 8 1 uX kuF hruX (by rw [kuX.2]; rfl) rfl (by decide)) (f.2.2.2 v2 12 2 uY kv2 hruY (by rw [kuY.2]; rfl) rfl (by decide)) (congrArg Int32.toInt (f.2.2.1 v2 12 0 kv2 (by decide) (by decide))) hs0
  have hc0 := KC_fr f wo.1 kuS luS kv2 hru62 ku62 (by decide) (by decide) (by decide) (congrArg Int32.toInt (f.2.2.1 v2 12 0 kv2 (by decide) (by decide))) hc0
  have hs9 := ARr_same (f.2.2.2 uF 8 0 uR kuF hruR (by rw [kuR.2]; rfl) rfl (by decide)) (f.2.2.2 v2 12 1 vR kv2 hrvR (by rw [kvR.2]; rfl) rfl (by decide)) (congrArg Int32.toInt (f.2.2.1 v2 12 0 kv2 (by decide) (by decide))) hs9
  have hv0 := PRr_pil (j := 4) (m := 13) hv0 hxt fo n1 p1o f n2 er hx3 kv1o kv2o hruAo kuVo hruVo (by decide) (by decide) (by decide) (fun z h => h.2.2.2.2.1)
  have hk := HK_fr f kuS kv2 hruK kuK hruC kuC (by decide) (by decide) (by decide) (by decide) hk
  have hx := TBr_fr f kuT hruB kuB kv2 hruM kuM (by decide) (by decide) (by decide) (by decide) hx
  have ea87 := congrArg Int32.toInt (f.2.2.1 uF 8 9 kuF (by decide) (by decide))
  have ea88 := congrArg Int32.toInt (f.2.2.1 v2 12 0 kv2 (by decide) (by decide))
  have ea89 := congrArg Int32.toInt (f.2.2.1 v2 12 7 kv2 (by decide) (by decide))
  have ea90 := congrArg Int32.toInt (f.2.2.1 v1 11 4 kv1 (by decide) (by decide))
  unfold f_L_law_b1760
  intro x ex
  have tx : x.toInt = v4.toInt + 6 := by rw [ex]; exact i_add rfl (show (6 : Int32).toInt = 6 from rfl) (by omega) (by omega)
  exact hK _ _ _ x ex (LInv_mk (Z := Z) (I := I) T uT uB uM uF uS uK uC uA uV uX uY uR vR uP x0 x2 u5 u53 u54 u62 x1 uQ vQ uW vW t30 t29 u5c t6 t9 t10 t11 t12 ⟨w, bd, kv1, kv2, kv3, hl, ht, hruT, kuT, hruB, kuB, hruM⟩ ⟨kuM, hx, hruF, kuF, (by omega), (by omega), (by omega), hruS, kuS, luS, hruK, kuK⟩ ⟨hruC, kuC, hk, hruA, kuA, hruV, kuV, hv0, hruX, kuX, hruY, kuY⟩ ⟨hruR, kuR, hrvR, kvR, hs0, hc0, hs9, hpc, hpm, hru62, ku62, hp0⟩ ⟨hk2, hm1, hm0, hak, ha0, hwi, hlb, hfb, hpb, hsh⟩)
set_option maxHeartbeats 4000000 in
set_option maxRecDepth 100000 in
theorem k_b661 {xs : Nat → Int32} {Ls : Nat} {B : Nat × Nat} {K : Nat → Nat → Nat → Int32 → jZ → jI → jL → Prop} {v1 v2 v3 : Nat} {v4 : Int32} {Z : jZ} {I : jI} {L : jL} {T uT uB uM uF uS uK uC uA uV uX uY uR vR uP x0 x2 u5 u53 u54 u62 x1 uQ vQ uW vW t30 t29 u5c t6 t9 t10 t11 t12 : Nat} (g0 : LG0 B v1 v2 v3 T uT uB uM Z I) (g1 : LG1 v1 v2 v4 uT uB uM uF uS uK Z I) (g2 : LG2 v1 v2 uF uS uK uC uA uV uX uY Z I) (g3 : LG3 v1 v2 uF uS uX uY uR vR uP x0 x2 u5 u53 u54 u62 Z I) (g4 : LG4 v1 v2 uF uS uA uP x0 u62 x1 uQ vQ uW vW t30 t29 u5c t6 t9 t10 t11 t12 Z I) (hv : 0 ≤ v4.toInt ∧ v4.toInt + 6 ≤ (Ls : Int) ∧ (Ls : Int) ≤ 3072) (hK : ∀ (Z : jZ) (I : jI) (L : jL) (x : Int32), x = v4 + 6 → LInv B v1 v2 v3 x Z I → K v1 v2 v3 x Z I L) : f_L_law_b661 xs Ls B K v1 v2 v3 v4 Z I L := by
  obtain ⟨w, bd, kv1, kv2, kv3, hl, ht, hruT, kuT, hruB, kuB, hruM⟩ := g0
  obtain ⟨kuM, hx, hruF, kuF, hx1, hx2, hx3, hruS, kuS, luS, hruK, kuK⟩ := g1
  obtain ⟨hruC, kuC, hk, hruA, kuA, hruV, kuV, hv0, hruX, kuX, hruY, kuY⟩ := g2
  obtain ⟨hruR, kuR, hrvR, kvR, hs0, hc0, hs9, hpc, hpm, hru62, ku62, hp0⟩ := g3
  obtain ⟨hk2, hm1, hm0, hak, ha0, hwi, hlb, hfb, hpb, hsh⟩ := g4
  unfold f_L_law_b661
  refine ⟨vi_of (i_add rfl (show (1 : Int32).toInt = 1 from rfl) (by omega) (by omega)) (by omega) (by omega), ?_⟩
  refine ⟨vi_of (i_add rfl (show (2 : Int32).toInt = 2 from rfl) (by omega) (by omega)) (by omega) (by omega), ?_⟩
  have wo := w
  refine s12_X11_vow w v1 _ _ kv1 uA hruA uV hv0  (fun r1 I L w f p1 => ?_)
  have ht : (I v1 4).toInt + (T : Int) = 6 := by rw [f.2.2.1 v1 11 4 kv1 (by decide) (by decide)]; exact ht
  have ha0 := ARr_same (f.2.2.2 uF 8 2 uQ kuF hak.1 (by rw [hak.2.1.2]; rfl) rfl (by decide)) (f.2.2.2 v2 12 3 vQ kv2 hak.2.2.1 (by rw [hak.2.2.2.1.2]; rfl) rfl (by decide)) (congrArg Int32.toInt (f.2.2.1 v2 12 0 kv2 (by decide) (by decide))) ha0
  have hwi := WI_fr f kuF kv2 (by decide) hwi
  have hlb := LB_fr f wo kuF kv2 (by decide) hlb
  have hfb := FB_fr f kuF kv2 (by decide) hfb
  have hpb := PB_fr f kv1 kuA kv2 (by decide) hpb
  have hsh : (I v2 39).toInt = -1 := by rw [f.2.2.1 v2 12 39 kv2 (by decide) (by decide)]; exact hsh
  have hak := AK_fr f wo kuF kv2 kuS luS hru62 ku62 (by decide) hak
  have hm0 := MAI_fr wo hpc.2.2.2.1 hpc.2.2.2.2.1 hm1 f (by decide) (by decide) hm0
  have hp0 := PR_same (EQC_fr f hpc (by decide)) (EQM_fr f kv2 hpm (by decide)) hp0
  have hk2 : KP2 Z I uS u62 (I v2 0).toInt.toNat := by rw [(f.2.2.1 v2 12 0 kv2 (by decide) (by decide))]; exact KP2_fr f wo.1 kuS luS kv2 hru62 ku62 (by decide) (by decide) (by decide) hk2
  have hs0 := ARr_same (f.2.2.2 uF 8 1 uX kuF hruX (by rw [kuX.2]; rfl) rfl (by decide)) (f.2.2.2 v2 12 2 uY kv2 hruY (by rw [kuY.2]; rfl) rfl (by decide)) (congrArg Int32.toInt (f.2.2.1 v2 12 0 kv2 (by decide) (by decide))) hs0
  have hc0 := KC_fr f wo.1 kuS luS kv2 hru62 ku62 (by decide) (by decide) (by decide) (congrArg Int32.toInt (f.2.2.1 v2 12 0 kv2 (by decide) (by decide))) hc0
  have hs9 := ARr_same (f.2.2.2 uF 8 0 uR kuF hruR (by rw [kuR.2]; rfl) rfl (by decide)) (f.2.2.2 v2 12 1 vR kv2 hrvR (by rw [kvR.2]; rfl) rfl (by decide)) (congrArg Int32.toInt (f.2.2.1 v2 12 0 kv2 (by decide) (by decide))) hs9
  have hk := HK_fr f kuS kv2 hruK kuK hruC kuC (by decide) (by decide) (by decide) (by decide) hk
  have hx := TBr_fr f kuT hruB kuB kv2 hruM kuM (by decide) (by decide) (by decide) (by decide) hx
  have ea91 := congrArg Int32.toInt (f.2.2.1 uF 8 9 kuF (by decide) (by decide))
  have ea92 := congrArg Int32.toInt (f.2.2.1 v2 12 0 kv2 (by decide) (by decide))
  have ea93 := congrArg Int32.toInt (f.2.2.1 v2 12 7 kv2 (by decide) (by decide))
  have ea94 := congrArg Int32.toInt (f.2.2.1 v1 11 4 kv1 (by decide) (by decide))
  have ea95 := congrArg Int32.toInt (f.2.2.1 v2 12 8 kv2 (by decide) (by decide))
  refine ⟨vi_of (i_add rfl (show (1 : Int32).toInt = 1 from rfl) (by omega) (by omega)) (by omega) (by omega), ?_⟩
  refine ⟨vi_of (i_add rfl (show (2 : Int32).toInt = 2 from rfl) (by omega) (by omega)) (by omega) (by omega), ?_⟩
  have wo := w
  refine s12_X12_vow w v2 _ _ kv2 uV hruV  (fun r2 I L w f p2 => ?_)
  have ht : (I v1 4).toInt + (T : Int) = 6 := by rw [f.2.2.1 v1 11 4 kv1 (by decide) (by decide)]; exact ht
  have ha0 := ARr_same (f.2.2.2 uF 8 2 uQ kuF hak.1 (by rw [hak.2.1.2]; rfl) rfl (by decide)) (f.2.2.2 v2 12 3 vQ kv2 hak.2.2.1 (by rw [hak.2.2.2.1.2]; rfl) rfl (by decide)) (congrArg Int32.toInt (f.2.2.1 v2 12 0 kv2 (by decide) (by decide))) ha0
  have hwi := WI_fr f kuF kv2 (by decide) hwi
  have hlb := LB_fr f wo kuF kv2 (by decide) hlb
  have hfb := FB_fr f kuF kv2 (by decide) hfb
  have hpb := PB_fr f kv1 kuA kv2 (by decide) hpb
  have hsh : (I v2 39).toInt = -1 := by rw [f.2.2.1 v2 12 39 kv2 (by decide) (by decide)]; exact hsh
  have hak := AK_fr f wo kuF kv2 kuS luS hru62 ku62 (by decide) hak
  have hm0 := MAI_fr wo hpc.2.2.2.1 hpc.2.2.2.2.1 hm1 f (by decide) (by decide) hm0
  have hp0 := PR_same (EQC_fr f hpc (by decide)) (EQM_fr f kv2 hpm (by decide)) hp0
  have hk2 : KP2 Z I uS u62 (I v2 0).toInt.toNat := by rw [(f.2.2.1 v2 12 0 kv2 (by decide) (by decide))]; exact KP2_fr f wo.1 kuS luS kv2 hru62 ku62 (by decide) (by decide) (by decide) hk2
  have hs0 := ARr_same (f.2.2.2 uF 8 1 uX kuF hruX (by rw [kuX.2]; rfl) rfl (by decide)) (f.2.2.2 v2 12 2 uY kv2 hruY (by rw [kuY.2]; rfl) rfl (by decide)) (congrArg Int32.toInt (f.2.2.1 v2 12 0 kv2 (by decide) (by decide))) hs0
  have hc0 := KC_fr f wo.1 kuS luS kv2 hru62 ku62 (by decide) (by decide) (by decide) (congrArg Int32.toInt (f.2.2.1 v2 12 0 kv2 (by decide) (by decide))) hc0
  have hs9 := ARr_same (f.2.2.2 uF 8 0 uR kuF hruR (by rw [kuR.2]; rfl) rfl (by decide)) (f.2.2.2 v2 12 1 vR kv2 hrvR (by rw [kvR.2]; rfl) rfl (by decide)) (congrArg Int32.toInt (f.2.2.1 v2 12 0 kv2 (by decide) (by decide))) hs9
  obtain ⟨er, hv0⟩ := PRr_vow w.2.1 hv0 kv1 kuA kv2 kuV hx3 p1 p2
  have hk := HK_fr f kuS kv2 hruK kuK hruC kuC (by decide) (by decide) (by decide) (by decide) hk
  have hx := TBr_fr f kuT hruB kuB kv2 hruM kuM (by decide) (by decide) (by decide) (by decide) hx
  have ea96 := congrArg Int32.toInt (f.2.2.1 uF 8 9 kuF (by decide) (by decide))
  have ea97 := congrArg Int32.toInt (f.2.2.1 v2 12 0 kv2 (by decide) (by decide))
  have ea98 := congrArg Int32.toInt (f.2.2.1 v2 12 7 kv2 (by decide) (by decide))
  have ea99 := congrArg Int32.toInt (f.2.2.1 v1 11 4 kv1 (by decide) (by decide))
  have ea100 := congrArg Int32.toInt (f.2.2.1 v2 12 8 kv2 (by decide) (by decide))
  unfold f_L_law_b1760
  intro x ex
  have tx : x.toInt = v4.toInt + 6 := by rw [ex]; exact i_add rfl (show (6 : Int32).toInt = 6 from rfl) (by omega) (by omega)
  exact hK _ _ _ x ex (LInv_mk (Z := Z) (I := I) T uT uB uM uF uS uK uC uA uV uX uY uR vR uP x0 x2 u5 u53 u54 u62 x1 uQ vQ uW vW t30 t29 u5c t6 t9 t10 t11 t12 ⟨w, bd, kv1, kv2, kv3, hl, ht, hruT, kuT, hruB, kuB, hruM⟩ ⟨kuM, hx, hruF, kuF, (by omega), (by omega), (by omega), hruS, kuS, luS, hruK, kuK⟩ ⟨hruC, kuC, hk, hruA, kuA, hruV, kuV, hv0, hruX, kuX, hruY, kuY⟩ ⟨hruR, kuR, hrvR, kvR, hs0, hc0, hs9, hpc, hpm, hru62, ku62, hp0⟩ ⟨hk2, hm1, hm0, hak, ha0, hwi, hlb, hfb, hpb, hsh⟩)
set_option maxHeartbeats 4000000 in
set_option maxRecDepth 100000 in
theorem k_b698 {xs : Nat → Int32} {Ls : Nat} {B : Nat × Nat} {K : Nat → Nat → Nat → Int32 → jZ → jI → jL → Prop} {v1 v2 v3 : Nat} {v4 : Int32} {Z : jZ} {I : jI} {L : jL} {T uT uB uM uF uS uK uC uA uV uX uY uR vR uP x0 x2 u5 u53 u54 u62 x1 uQ vQ uW vW t30 t29 u5c t6 t9 t10 t11 t12 : Nat} (g0 : LG0 B v1 v2 v3 T uT uB uM Z I) (g1 : LG1 v1 v2 v4 uT uB uM uF uS uK Z I) (g2 : LG2 v1 v2 uF uS uK uC uA uV uX uY Z I) (g3 : LG3 v1 v2 uF uS uX uY uR vR uP x0 x2 u5 u53 u54 u62 Z I) (g4 : LG4 v1 v2 uF uS uA uP x0 u62 x1 uQ vQ uW vW t30 t29 u5c t6 t9 t10 t11 t12 Z I) (hv : 0 ≤ v4.toInt ∧ v4.toInt + 6 ≤ (Ls : Int) ∧ (Ls : Int) ≤ 3072) (hK : ∀ (Z : jZ) (I : jI) (L : jL) (x : Int32), x = v4 + 6 → LInv B v1 v2 v3 x Z I → K v1 v2 v3 x Z I L) : f_L_law_b698 xs Ls B K v1 v2 v3 v4 Z I L := by
  obtain ⟨w, bd, kv1, kv2, kv3, hl, ht, hruT, kuT, hruB, kuB, hruM⟩ := g0
  obtain ⟨kuM, hx, hruF, kuF, hx1, hx2, hx3, hruS, kuS, luS, hruK, kuK⟩ := g1
  obtain ⟨hruC, kuC, hk, hruA, kuA, hruV, kuV, hv0, hruX, kuX, hruY, kuY⟩ := g2
  obtain ⟨hruR, kuR, hrvR, kvR, hs0, hc0, hs9, hpc, hpm, hru62, ku62, hp0⟩ := g3
  obtain ⟨hk2, hm1, hm0, hak, ha0, hwi, hlb, hfb, hpb, hsh⟩ := g4
  unfold f_L_law_b698
  refine ⟨vi_of (i_add rfl (show (1 : Int32).toInt = 1 from rfl) (by omega) (by omega)) (by omega) (by omega), ?_⟩
  refine ⟨vi_of (i_add rfl (show (2 : Int32).toInt = 2 from rfl) (by omega) (by omega)) (by omega) (by omega), ?_⟩
  refine s_L_of w v1 _ _ v3 kv1 hl (fun r L => ?_)
  refine ⟨vi_of (i_add rfl (show (1 : Int32).toInt = 1 from rfl) (by omega) (by omega)) (by omega) (by omega), ?_⟩
  refine ⟨vi_of (i_add rfl (show (2 : Int32).toInt = 2 from rfl) (by omega) (by omega)) (by omega) (by omega), ?_⟩
  have wo := w
  refine s_X12_of w v2 _ _ kv2  (fun r2 I L w f => ?_)
  have ht : (I v1 4).toInt + (T : Int) = 6 := by rw [f.2.2.1 v1 11 4 kv1 (by decide) (by decide)]; exact ht
  have ha0 := ARr_same (f.2.2.2 uF 8 2 uQ kuF hak.1 (by rw [hak.2.1.2]; rfl) rfl (by decide)) (f.2.2.2 v2 12 3 vQ kv2 hak.2.2.1 (by rw [hak.2.2.2.1.2]; rfl) rfl (by decide)) (congrArg Int32.toInt (f.2.2.1 v2 12 0 kv2 (by decide) (by decide))) ha0
  have hwi := WI_fr f kuF kv2 (by decide) hwi
  have hlb := LB_fr f wo kuF kv2 (by decide) hlb
  have hfb := FB_fr f kuF kv2 (by decide) hfb
  have hpb := PB_fr f kv1 kuA kv2 (by decide) hpb
  have hsh : (I v2 39).toInt = -1 := by rw [f.2.2.1 v2 12 39 kv2 (by decide) (by decide)]; exact hsh
  have hak := AK_fr f wo kuF kv2 kuS luS hru62 ku62 (by decide) hak
  have hm0 := MAI_fr wo hpc.2.2.2.1 hpc.2.2.2.2.1 hm1 f (by decide) (by decide) hm0
  have hp0 := PR_same (EQC_fr f hpc (by decide)) (EQM_fr f kv2 hpm (by decide)) hp0
  have hk2 : KP2 Z I uS u62 (I v2 0).toInt.toNat := by rw [(f.2.2.1 v2 12 0 kv2 (by decide) (by decide))]; exact KP2_fr f wo.1 kuS luS kv2 hru62 ku62 (by decide) (by decide) (by decide) hk2
  have hs0 := ARr_same (f.2.2.2 uF 8 1 uX kuF hruX (by rw [kuX.2]; rfl) rfl (by decide)) (f.2.2.2 v2 12 2 uY kv2 hruY (by rw [kuY.2]; rfl) rfl (by decide)) (congrArg Int32.toInt (f.2.2.1 v2 12 0 kv2 (by decide) (by decide))) hs0
  have hc0 := KC_fr f wo.1 kuS luS kv2 hru62 ku62 (by decide) (by decide) (by decide) (congrArg Int32.toInt (f.2.2.1 v2 12 0 kv2 (by decide) (by decide))) hc0
  have hs9 := ARr_same (f.2.2.2 uF 8 0 uR kuF hruR (by rw [kuR.2]; rfl) rfl (by decide)) (f.2.2.2 v2 12 1 vR kv2 hrvR (by rw [kvR.2]; rfl) rfl (by decide)) (congrArg Int32.toInt (f.2.2.1 v2 12 0 kv2 (by decide) (by decide))) hs9
  have hv0 := PRr_fr f kv1 kuA (eMf f kv2 hruV kuV rfl (by decide)) (by decide) (by decide) hv0
  have hk := HK_fr f kuS kv2 hruK kuK hruC kuC (by decide) (by decide) (by decide) (by decide) hk
  have hx := TBr_fr f kuT hruB kuB kv2 hruM kuM (by decide) (by decide) (by decide) (by decide) hx
  have ea101 := congrArg Int32.toInt (f.2.2.1 uF 8 9 kuF (by decide) (by decide))
  have ea102 := congrArg Int32.toInt (f.2.2.1 v2 12 0 kv2 (by decide) (by decide))
  have ea103 := congrArg Int32.toInt (f.2.2.1 v2 12 7 kv2 (by decide) (by decide))
  have ea104 := congrArg Int32.toInt (f.2.2.1 v1 11 4 kv1 (by decide) (by decide))
  have ea105 := congrArg Int32.toInt (f.2.2.1 v2 12 8 kv2 (by decide) (by decide))
  unfold f_L_law_b1760
  intro x ex
  have tx : x.toInt = v4.toInt + 6 := by rw [ex]; exact i_add rfl (show (6 : Int32).toInt = 6 from rfl) (by omega) (by omega)
  exact hK _ _ _ x ex (LInv_mk (Z := Z) (I := I) T uT uB uM uF uS uK uC uA uV uX uY uR vR uP x0 x2 u5 u53 u54 u62 x1 uQ vQ uW vW t30 t29 u5c t6 t9 t10 t11 t12 ⟨w, bd, kv1, kv2, kv3, hl, ht, hruT, kuT, hruB, kuB, hruM⟩ ⟨kuM, hx, hruF, kuF, (by omega), (by omega), (by omega), hruS, kuS, luS, hruK, kuK⟩ ⟨hruC, kuC, hk, hruA, kuA, hruV, kuV, hv0, hruX, kuX, hruY, kuY⟩ ⟨hruR, kuR, hrvR, kvR, hs0, hc0, hs9, hpc, hpm, hru62, ku62, hp0⟩ ⟨hk2, hm1, hm0, hak, ha0, hwi, hlb, hfb, hpb, hsh⟩)
set_option maxHeartbeats 4000000 in
set_option maxRecDepth 100000 in
theorem k_b738 {xs : Nat → Int32} {Ls : Nat} {B : Nat × Nat} {K : Nat → Nat → Nat → Int32 → jZ → jI → jL → Prop} {v1 v2 v3 : Nat} {v4 : Int32} {Z : jZ} {I : jI} {L : jL} {T uT uB uM uF uS uK uC uA uV uX uY uR vR uP x0 x2 u5 u53 u54 u62 x1 uQ vQ uW vW t30 t29 u5c t6 t9 t10 t11 t12 : Nat} (g0 : LG0 B v1 v2 v3 T uT uB uM Z I) (g1 : LG1 v1 v2 v4 uT uB uM uF uS uK Z I) (g2 : LG2 v1 v2 uF uS uK uC uA uV uX uY Z I) (g3 : LG3 v1 v2 uF uS uX uY uR vR uP x0 x2 u5 u53 u54 u62 Z I) (g4 : LG4 v1 v2 uF uS uA uP x0 u62 x1 uQ vQ uW vW t30 t29 u5c t6 t9 t10 t11 t12 Z I) (hv : 0 ≤ v4.toInt ∧ v4.toInt + 6 ≤ (Ls : Int) ∧ (Ls : Int) ≤ 3072) (hK : ∀ (Z : jZ) (I : jI) (L : jL) (x : Int32), x = v4 + 6 → LInv B v1 v2 v3 x Z I → K v1 v2 v3 x Z I L) : f_L_law_b738 xs Ls B K v1 v2 v3 v4 Z I L := by
  obtain ⟨w, bd, kv1, kv2, kv3, hl, ht, hruT, kuT, hruB, kuB, hruM⟩ := g0
  obtain ⟨kuM, hx, hruF, kuF, hx1, hx2, hx3, hruS, kuS, luS, hruK, kuK⟩ := g1
  obtain ⟨hruC, kuC, hk, hruA, kuA, hruV, kuV, hv0, hruX, kuX, hruY, kuY⟩ := g2
  obtain ⟨hruR, kuR, hrvR, kvR, hs0, hc0, hs9, hpc, hpm, hru62, ku62, hp0⟩ := g3
  obtain ⟨hk2, hm1, hm0, hak, ha0, hwi, hlb, hfb, hpb, hsh⟩ := g4
  unfold f_L_law_b738
  refine ⟨vi_of (i_add rfl (show (1 : Int32).toInt = 1 from rfl) (by omega) (by omega)) (by omega) (by omega), ?_⟩
  refine ⟨vi_of (i_add rfl (show (2 : Int32).toInt = 2 from rfl) (by omega) (by omega)) (by omega) (by omega), ?_⟩
  have wo := w
  refine s_X11_costs w v1 _ _ kv1  (fun r1 I L w f => ?_)
  have ht : (I v1 4).toInt + (T : Int) = 6 := by rw [f.2.2.1 v1 11 4 kv1 (by decide) (by decide)]; exact ht
  have ha0 := ARr_same (f.2.2.2 uF 8 2 uQ kuF hak.1 (by rw [hak.2.1.2]; rfl) rfl (by decide)) (f.2.2.2 v2 12 3 vQ kv2 hak.2.2.1 (by rw [hak.2.2.2.1.2]; rfl) rfl (by decide)) (congrArg Int32.toInt (f.2.2.1 v2 12 0 kv2 (by decide) (by decide))) ha0
  have hwi := WI_fr f kuF kv2 (by decide) hwi
  have hlb := LB_fr f wo kuF kv2 (by decide) hlb
  have hfb := FB_fr f kuF kv2 (by decide) hfb
  have hpb := PB_fr f kv1 kuA kv2 (by decide) hpb
  have hsh : (I v2 39).toInt = -1 := by rw [f.2.2.1 v2 12 39 kv2 (by decide) (by decide)]; exact hsh
  have hak := AK_fr f wo kuF kv2 kuS luS hru62 ku62 (by decide) hak
  have hm0 := MAI_fr wo hpc.2.2.2.1 hpc.2.2.2.2.1 hm1 f (by decide) (by decide) hm0
  have hp0 := PR_same (EQC_fr f hpc (by decide)) (EQM_fr f kv2 hpm (by decide)) hp0
  have hk2 : KP2 Z I uS u62 (I v2 0).toInt.toNat := by rw [(f.2.2.1 v2 12 0 kv2 (by decide) (by decide))]; exact KP2_fr f wo.1 kuS luS kv2 hru62 ku62 (by decide) (by decide) (by decide) hk2
  have hs0 := ARr_same (f.2.2.2 uF 8 1 uX kuF hruX (by rw [kuX.2]; rfl) rfl (by decide)) (f.2.2.2 v2 12 2 uY kv2 hruY (by rw [kuY.2]; rfl) rfl (by decide)) (congrArg Int32.toInt (f.2.2.1 v2 12 0 kv2 (by decide) (by decide))) hs0
  have hc0 := KC_fr f wo.1 kuS luS kv2 hru62 ku62 (by decide) (by decide) (by decide) (congrArg Int32.toInt (f.2.2.1 v2 12 0 kv2 (by decide) (by decide))) hc0
  have hs9 := ARr_same (f.2.2.2 uF 8 0 uR kuF hruR (by rw [kuR.2]; rfl) rfl (by decide)) (f.2.2.2 v2 12 1 vR kv2 hrvR (by rw [kvR.2]; rfl) rfl (by decide)) (congrArg Int32.toInt (f.2.2.1 v2 12 0 kv2 (by decide) (by decide))) hs9
  have hv0 := PRr_fr f kv1 kuA (eMf f kv2 hruV kuV rfl (by decide)) (by decide) (by decide) hv0
  have hk := HK_fr f kuS kv2 hruK kuK hruC kuC (by decide) (by decide) (by decide) (by decide) hk
  have hx := TBr_fr f kuT hruB kuB kv2 hruM kuM (by decide) (by decide) (by decide) (by decide) hx
  have ea106 := congrArg Int32.toInt (f.2.2.1 uF 8 9 kuF (by decide) (by decide))
  have ea107 := congrArg Int32.toInt (f.2.2.1 v2 12 0 kv2 (by decide) (by decide))
  have ea108 := congrArg Int32.toInt (f.2.2.1 v2 12 7 kv2 (by decide) (by decide))
  have ea109 := congrArg Int32.toInt (f.2.2.1 v1 11 4 kv1 (by decide) (by decide))
  have ea110 := congrArg Int32.toInt (f.2.2.1 v2 12 8 kv2 (by decide) (by decide))
  refine ⟨vi_of (i_add rfl (show (1 : Int32).toInt = 1 from rfl) (by omega) (by omega)) (by omega) (by omega), ?_⟩
  refine ⟨vi_of (i_add rfl (show (2 : Int32).toInt = 2 from rfl) (by omega) (by omega)) (by omega) (by omega), ?_⟩
  have wo := w
  refine s_X12_costs w bd v2 _ _ kv2  (fun r2 Z I L w bd f cp => ?_)
  have ht : (I v1 4).toInt + (T : Int) = 6 := by rw [f.2.2.1 v1 11 4 kv1 (by decide) (by decide)]; exact ht
  have ha0 := ARr_same (f.2.2.2 uF 8 2 uQ kuF hak.1 (by rw [hak.2.1.2]; rfl) rfl (by decide)) (f.2.2.2 v2 12 3 vQ kv2 hak.2.2.1 (by rw [hak.2.2.2.1.2]; rfl) rfl (by decide)) (congrArg Int32.toInt (f.2.2.1 v2 12 0 kv2 (by decide) (by decide))) ha0
  have hwi := WI_fr f kuF kv2 (by decide) hwi
  have hlb := LB_fr f wo kuF kv2 (by decide) hlb
  have hfb := FB_fr f kuF kv2 (by decide) hfb
  have hpb := PB_fr f kv1 kuA kv2 (by decide) hpb
  have hsh : (I v2 39).toInt = -1 := by rw [f.2.2.1 v2 12 39 kv2 (by decide) (by decide)]; exact hsh
  have hak := AK_fr f wo kuF kv2 kuS luS hru62 ku62 (by decide) hak
  have hm0 := MAI_fr wo hpc.2.2.2.1 hpc.2.2.2.2.1 hm1 f (by decide) (by decide) hm0
  have hp0 := PR_same (EQC_fr f hpc (by decide)) (EQM_fr f kv2 hpm (by decide)) hp0
  have hk2 : KP2 Z I uS u62 (I v2 0).toInt.toNat := by rw [(f.2.2.1 v2 12 0 kv2 (by decide) (by decide))]; exact KP2_fr f wo.1 kuS luS kv2 hru62 ku62 (by decide) (by decide) (by decide) hk2
  have hs0 := ARr_same (f.2.2.2 uF 8 1 uX kuF hruX (by rw [kuX.2]; rfl) rfl (by decide)) (f.2.2.2 v2 12 2 uY kv2 hruY (by rw [kuY.2]; rfl) rfl (by decide)) (congrArg Int32.toInt (f.2.2.1 v2 12 0 kv2 (by decide) (by decide))) hs0
  have hc0 := KC_fr f wo.1 kuS luS kv2 hru62 ku62 (by decide) (by decide) (by decide) (congrArg Int32.toInt (f.2.2.1 v2 12 0 kv2 (by decide) (by decide))) hc0
  have hs9 := ARr_same (f.2.2.2 uF 8 0 uR kuF hruR (by rw [kuR.2]; rfl) rfl (by decide)) (f.2.2.2 v2 12 1 vR kv2 hrvR (by rw [kvR.2]; rfl) rfl (by decide)) (congrArg Int32.toInt (f.2.2.1 v2 12 0 kv2 (by decide) (by decide))) hs9
  have hv0 := PRr_fr f kv1 kuA (eMf f kv2 hruV kuV rfl (by decide)) (by decide) (by decide) hv0
  have hk := HK_fr f kuS kv2 hruK kuK hruC kuC (by decide) (by decide) (by decide) (by decide) hk
  have hx := TBr_fr f kuT hruB kuB kv2 hruM kuM (by decide) (by decide) (by decide) (by decide) hx
  have ea111 := congrArg Int32.toInt (f.2.2.1 uF 8 9 kuF (by decide) (by decide))
  have ea112 := congrArg Int32.toInt (f.2.2.1 v2 12 0 kv2 (by decide) (by decide))
  have ea113 := congrArg Int32.toInt (f.2.2.1 v2 12 7 kv2 (by decide) (by decide))
  have ea114 := congrArg Int32.toInt (f.2.2.1 v1 11 4 kv1 (by decide) (by decide))
  have ea115 := congrArg Int32.toInt (f.2.2.1 v2 12 8 kv2 (by decide) (by decide))
  have hm1 := (f.2.1 uP 4 1 hpc.2.2.2.1 (by decide) (by decide)).trans hm1
  have hpc := PCs_x f.1 (fun a c j ka hc => f.2.1 a c j ka (by omega) (by omega)) kv1 hpc
  have hpm := PMs_x f.1 (fun j hj => f.2.1 v2 12 j kv2 (by omega) (by omega)) hpm
  have hru62 := (f.2.1 v2 12 62 kv2 (by decide) (by decide)).trans hru62
  have ku62 := (f.1 _ _ ku62).1
  have hruX := (f.2.1 uF 8 1 kuF (by decide) (by decide)).trans hruX
  have kuX := (f.1 _ _ kuX).1
  have hruY := (f.2.1 v2 12 2 kv2 (by decide) (by decide)).trans hruY
  have kuY := (f.1 _ _ kuY).1
  have hruR := (f.2.1 uF 8 0 kuF (by decide) (by decide)).trans hruR
  have kuR := (f.1 _ _ kuR).1
  have hrvR := (f.2.1 v2 12 1 kv2 (by decide) (by decide)).trans hrvR
  have kvR := (f.1 _ _ kvR).1
  have hruA := (f.2.1 v1 11 3 kv1 (by decide) (by decide)).trans hruA
  have kuA := (f.1 _ _ kuA).1
  have hruV := (f.2.1 v2 12 13 kv2 (by decide) (by decide)).trans hruV
  have kuV := (f.1 _ _ kuV).1
  have hruS := (f.2.1 v1 11 8 kv1 (by decide) (by decide)).trans hruS
  have luS := (f.1 _ _ kuS).2.trans luS
  have kuS := (f.1 _ _ kuS).1
  have hruK := (f.2.1 v2 12 63 kv2 (by decide) (by decide)).trans hruK
  have kuK := (f.1 _ _ kuK).1
  have hruC := (f.2.1 v2 12 64 kv2 (by decide) (by decide)).trans hruC
  have kuC := (f.1 _ _ kuC).1
  have hruB := (f.2.1 uT 10 0 kuT (by decide) (by decide)).trans hruB
  have hruM := (f.2.1 v2 12 18 kv2 (by decide) (by decide)).trans hruM
  have kuB := (f.1 _ _ kuB).1
  have kuM := (f.1 _ _ kuM).1
  have hruT := (f.2.1 v1 11 0 kv1 (by decide) (by decide)).trans hruT
  have kuT := (f.1 _ _ kuT).1
  have hruF := (f.2.1 v1 11 2 kv1 (by decide) (by decide)).trans hruF
  have kuF := (f.1 _ _ kuF).1
  have hl : jlen Z v3 = 1 := (f.1 _ _ kv3).2.trans hl
  have kv1 := (f.1 _ _ kv1).1
  have kv2 := (f.1 _ _ kv2).1
  have kv3 := (f.1 _ _ kv3).1
  unfold f_L_law_b1760
  intro x ex
  have tx : x.toInt = v4.toInt + 6 := by rw [ex]; exact i_add rfl (show (6 : Int32).toInt = 6 from rfl) (by omega) (by omega)
  exact hK _ _ _ x ex (LInv_mk (Z := Z) (I := I) T uT uB uM uF uS uK uC uA uV uX uY uR vR uP x0 x2 u5 u53 u54 u62 x1 uQ vQ uW vW t30 t29 u5c t6 t9 t10 t11 t12 ⟨w, bd, kv1, kv2, kv3, hl, ht, hruT, kuT, hruB, kuB, hruM⟩ ⟨kuM, hx, hruF, kuF, (by omega), (by omega), (by omega), hruS, kuS, luS, hruK, kuK⟩ ⟨hruC, kuC, hk, hruA, kuA, hruV, kuV, hv0, hruX, kuX, hruY, kuY⟩ ⟨hruR, kuR, hrvR, kvR, hs0, hc0, hs9, hpc, hpm, hru62, ku62, hp0⟩ ⟨hk2, hm1, hm0, hak, ha0, hwi, hlb, hfb, hpb, hsh⟩)
set_option maxHeartbeats 4000000 in
set_option maxRecDepth 100000 in
theorem k_b775 {xs : Nat → Int32} {Ls : Nat} {B : Nat × Nat} {K : Nat → Nat → Nat → Int32 → jZ → jI → jL → Prop} {v1 v2 v3 : Nat} {v4 : Int32} {Z : jZ} {I : jI} {L : jL} {T uT uB uM uF uS uK uC uA uV uX uY uR vR uP x0 x2 u5 u53 u54 u62 x1 uQ vQ uW vW t30 t29 u5c t6 t9 t10 t11 t12 : Nat} (g0 : LG0 B v1 v2 v3 T uT uB uM Z I) (g1 : LG1 v1 v2 v4 uT uB uM uF uS uK Z I) (g2 : LG2 v1 v2 uF uS uK uC uA uV uX uY Z I) (g3 : LG3 v1 v2 uF uS uX uY uR vR uP x0 x2 u5 u53 u54 u62 Z I) (g4 : LG4 v1 v2 uF uS uA uP x0 u62 x1 uQ vQ uW vW t30 t29 u5c t6 t9 t10 t11 t12 Z I) (hv : 0 ≤ v4.toInt ∧ v4.toInt + 6 ≤ (Ls : Int) ∧ (Ls : Int) ≤ 3072) (hK : ∀ (Z : jZ) (I : jI) (L : jL) (x : Int32), x = v4 + 6 → LInv B v1 v2 v3 x Z I → K v1 v2 v3 x Z I L) : f_L_law_b775 xs Ls B K v1 v2 v3 v4 Z I L := by
  obtain ⟨w, bd, kv1, kv2, kv3, hl, ht, hruT, kuT, hruB, kuB, hruM⟩ := g0
  obtain ⟨kuM, hx, hruF, kuF, hx1, hx2, hx3, hruS, kuS, luS, hruK, kuK⟩ := g1
  obtain ⟨hruC, kuC, hk, hruA, kuA, hruV, kuV, hv0, hruX, kuX, hruY, kuY⟩ := g2
  obtain ⟨hruR, kuR, hrvR, kvR, hs0, hc0, hs9, hpc, hpm, hru62, ku62, hp0⟩ := g3
  obtain ⟨hk2, hm1, hm0, hak, ha0, hwi, hlb, hfb, hpb, hsh⟩ := g4
  unfold f_L_law_b775
  refine ⟨vi_of (i_add rfl (show (1 : Int32).toInt = 1 from rfl) (by omega) (by omega)) (by omega) (by omega), ?_⟩
  refine ⟨vi_of (i_add rfl (show (2 : Int32).toInt = 2 from rfl) (by omega) (by omega)) (by omega) (by omega), ?_⟩
  have wo := w
  refine s_X11_tread w v1 _ _ kv1  (fun r1 I L w f => ?_)
  have ht : (I v1 4).toInt + (T : Int) = 6 := by rw [f.2.2.1 v1 11 4 kv1 (by decide) (by decide)]; exact ht
  have ha0 := ARr_same (f.2.2.2 uF 8 2 uQ kuF hak.1 (by rw [hak.2.1.2]; rfl) rfl (by decide)) (f.2.2.2 v2 12 3 vQ kv2 hak.2.2.1 (by rw [hak.2.2.2.1.2]; rfl) rfl (by decide)) (congrArg Int32.toInt (f.2.2.1 v2 12 0 kv2 (by decide) (by decide))) ha0
  have hwi := WI_fr f kuF kv2 (by decide) hwi
  have hlb := LB_fr f wo kuF kv2 (by decide) hlb
  have hfb := FB_fr f kuF kv2 (by decide) hfb
  have hpb := PB_fr f kv1 kuA kv2 (by decide) hpb
  have hsh : (I v2 39).toInt = -1 := by rw [f.2.2.1 v2 12 39 kv2 (by decide) (by decide)]; exact hsh
  have hak := AK_fr f wo kuF kv2 kuS luS hru62 ku62 (by decide) hak
  have hm0 := MAI_fr wo hpc.2.2.2.1 hpc.2.2.2.2.1 hm1 f (by decide) (by decide) hm0
  have hp0 := PR_same (EQC_fr f hpc (by decide)) (EQM_fr f kv2 hpm (by decide)) hp0
  have hk2 : KP2 Z I uS u62 (I v2 0).toInt.toNat := by rw [(f.2.2.1 v2 12 0 kv2 (by decide) (by decide))]; exact KP2_fr f wo.1 kuS luS kv2 hru62 ku62 (by decide) (by decide) (by decide) hk2
  have hs0 := ARr_same (f.2.2.2 uF 8 1 uX kuF hruX (by rw [kuX.2]; rfl) rfl (by decide)) (f.2.2.2 v2 12 2 uY kv2 hruY (by rw [kuY.2]; rfl) rfl (by decide)) (congrArg Int32.toInt (f.2.2.1 v2 12 0 kv2 (by decide) (by decide))) hs0
  have hc0 := KC_fr f wo.1 kuS luS kv2 hru62 ku62 (by decide) (by decide) (by decide) (congrArg Int32.toInt (f.2.2.1 v2 12 0 kv2 (by decide) (by decide))) hc0
  have hs9 := ARr_same (f.2.2.2 uF 8 0 uR kuF hruR (by rw [kuR.2]; rfl) rfl (by decide)) (f.2.2.2 v2 12 1 vR kv2 hrvR (by rw [kvR.2]; rfl) rfl (by decide)) (congrArg Int32.toInt (f.2.2.1 v2 12 0 kv2 (by decide) (by decide))) hs9
  have hv0 := PRr_fr f kv1 kuA (eMf f kv2 hruV kuV rfl (by decide)) (by decide) (by decide) hv0
  have hk := HK_fr f kuS kv2 hruK kuK hruC kuC (by decide) (by decide) (by decide) (by decide) hk
  have hx := TBr_fr f kuT hruB kuB kv2 hruM kuM (by decide) (by decide) (by decide) (by decide) hx
  have ea116 := congrArg Int32.toInt (f.2.2.1 uF 8 9 kuF (by decide) (by decide))
  have ea117 := congrArg Int32.toInt (f.2.2.1 v2 12 0 kv2 (by decide) (by decide))
  have ea118 := congrArg Int32.toInt (f.2.2.1 v2 12 7 kv2 (by decide) (by decide))
  have ea119 := congrArg Int32.toInt (f.2.2.1 v1 11 4 kv1 (by decide) (by decide))
  have ea120 := congrArg Int32.toInt (f.2.2.1 v2 12 8 kv2 (by decide) (by decide))
  refine ⟨vi_of (i_add rfl (show (1 : Int32).toInt = 1 from rfl) (by omega) (by omega)) (by omega) (by omega), ?_⟩
  refine ⟨vi_of (i_add rfl (show (2 : Int32).toInt = 2 from rfl) (by omega) (by omega)) (by omega) (by omega), ?_⟩
  have wo := w
  refine s_X12_tread w bd v2 _ _ kv2  (fun r2 Z I L w bd f cp => ?_)
  have ht : (I v1 4).toInt + (T : Int) = 6 := by rw [f.2.2.1 v1 11 4 kv1 (by decide) (by decide)]; exact ht
  have ha0 := ARr_same (f.2.2.2 uF 8 2 uQ kuF hak.1 (by rw [hak.2.1.2]; rfl) rfl (by decide)) (f.2.2.2 v2 12 3 vQ kv2 hak.2.2.1 (by rw [hak.2.2.2.1.2]; rfl) rfl (by decide)) (congrArg Int32.toInt (f.2.2.1 v2 12 0 kv2 (by decide) (by decide))) ha0
  have hwi := WI_fr f kuF kv2 (by decide) hwi
  have hlb := LB_fr f wo kuF kv2 (by decide) hlb
  have hfb := FB_fr f kuF kv2 (by decide) hfb
  have hpb := PB_fr f kv1 kuA kv2 (by decide) hpb
  have hsh : (I v2 39).toInt = -1 := by rw [f.2.2.1 v2 12 39 kv2 (by decide) (by decide)]; exact hsh
  have hak := AK_fr f wo kuF kv2 kuS luS hru62 ku62 (by decide) hak
  have hm0 := MAI_fr wo hpc.2.2.2.1 hpc.2.2.2.2.1 hm1 f (by decide) (by decide) hm0
  have hp0 := PR_same (EQC_fr f hpc (by decide)) (EQM_fr f kv2 hpm (by decide)) hp0
  have hk2 : KP2 Z I uS u62 (I v2 0).toInt.toNat := by rw [(f.2.2.1 v2 12 0 kv2 (by decide) (by decide))]; exact KP2_fr f wo.1 kuS luS kv2 hru62 ku62 (by decide) (by decide) (by decide) hk2
  have hs0 := ARr_same (f.2.2.2 uF 8 1 uX kuF hruX (by rw [kuX.2]; rfl) rfl (by decide)) (f.2.2.2 v2 12 2 uY kv2 hruY (by rw [kuY.2]; rfl) rfl (by decide)) (congrArg Int32.toInt (f.2.2.1 v2 12 0 kv2 (by decide) (by decide))) hs0
  have hc0 := KC_fr f wo.1 kuS luS kv2 hru62 ku62 (by decide) (by decide) (by decide) (congrArg Int32.toInt (f.2.2.1 v2 12 0 kv2 (by decide) (by decide))) hc0
  have hs9 := ARr_same (f.2.2.2 uF 8 0 uR kuF hruR (by rw [kuR.2]; rfl) rfl (by decide)) (f.2.2.2 v2 12 1 vR kv2 hrvR (by rw [kvR.2]; rfl) rfl (by decide)) (congrArg Int32.toInt (f.2.2.1 v2 12 0 kv2 (by decide) (by decide))) hs9
  have hv0 := PRr_fr f kv1 kuA (eMf f kv2 hruV kuV rfl (by decide)) (by decide) (by decide) hv0
  have hk := HK_fr f kuS kv2 hruK kuK hruC kuC (by decide) (by decide) (by decide) (by decide) hk
  have hx := TBr_fr f kuT hruB kuB kv2 hruM kuM (by decide) (by decide) (by decide) (by decide) hx
  have ea121 := congrArg Int32.toInt (f.2.2.1 uF 8 9 kuF (by decide) (by decide))
  have ea122 := congrArg Int32.toInt (f.2.2.1 v2 12 0 kv2 (by decide) (by decide))
  have ea123 := congrArg Int32.toInt (f.2.2.1 v2 12 7 kv2 (by decide) (by decide))
  have ea124 := congrArg Int32.toInt (f.2.2.1 v1 11 4 kv1 (by decide) (by decide))
  have ea125 := congrArg Int32.toInt (f.2.2.1 v2 12 8 kv2 (by decide) (by decide))
  have hm1 := (f.2.1 uP 4 1 hpc.2.2.2.1 (by decide) (by decide)).trans hm1
  have hpc := PCs_x f.1 (fun a c j ka hc => f.2.1 a c j ka (by omega) (by omega)) kv1 hpc
  have hpm := PMs_x f.1 (fun j hj => f.2.1 v2 12 j kv2 (by omega) (by omega)) hpm
  have hru62 := (f.2.1 v2 12 62 kv2 (by decide) (by decide)).trans hru62
  have ku62 := (f.1 _ _ ku62).1
  have hruX := (f.2.1 uF 8 1 kuF (by decide) (by decide)).trans hruX
  have kuX := (f.1 _ _ kuX).1
  have hruY := (f.2.1 v2 12 2 kv2 (by decide) (by decide)).trans hruY
  have kuY := (f.1 _ _ kuY).1
  have hruR := (f.2.1 uF 8 0 kuF (by decide) (by decide)).trans hruR
  have kuR := (f.1 _ _ kuR).1
  have hrvR := (f.2.1 v2 12 1 kv2 (by decide) (by decide)).trans hrvR
  have kvR := (f.1 _ _ kvR).1
  have hruA := (f.2.1 v1 11 3 kv1 (by decide) (by decide)).trans hruA
  have kuA := (f.1 _ _ kuA).1
  have hruV := (f.2.1 v2 12 13 kv2 (by decide) (by decide)).trans hruV
  have kuV := (f.1 _ _ kuV).1
  have hruS := (f.2.1 v1 11 8 kv1 (by decide) (by decide)).trans hruS
  have luS := (f.1 _ _ kuS).2.trans luS
  have kuS := (f.1 _ _ kuS).1
  have hruK := (f.2.1 v2 12 63 kv2 (by decide) (by decide)).trans hruK
  have kuK := (f.1 _ _ kuK).1
  have hruC := (f.2.1 v2 12 64 kv2 (by decide) (by decide)).trans hruC
  have kuC := (f.1 _ _ kuC).1
  have hruB := (f.2.1 uT 10 0 kuT (by decide) (by decide)).trans hruB
  have hruM := (f.2.1 v2 12 18 kv2 (by decide) (by decide)).trans hruM
  have kuB := (f.1 _ _ kuB).1
  have kuM := (f.1 _ _ kuM).1
  have hruT := (f.2.1 v1 11 0 kv1 (by decide) (by decide)).trans hruT
  have kuT := (f.1 _ _ kuT).1
  have hruF := (f.2.1 v1 11 2 kv1 (by decide) (by decide)).trans hruF
  have kuF := (f.1 _ _ kuF).1
  have hl : jlen Z v3 = 1 := (f.1 _ _ kv3).2.trans hl
  have kv1 := (f.1 _ _ kv1).1
  have kv2 := (f.1 _ _ kv2).1
  have kv3 := (f.1 _ _ kv3).1
  unfold f_L_law_b1760
  intro x ex
  have tx : x.toInt = v4.toInt + 6 := by rw [ex]; exact i_add rfl (show (6 : Int32).toInt = 6 from rfl) (by omega) (by omega)
  exact hK _ _ _ x ex (LInv_mk (Z := Z) (I := I) T uT uB uM uF uS uK uC uA uV uX uY uR vR uP x0 x2 u5 u53 u54 u62 x1 uQ vQ uW vW t30 t29 u5c t6 t9 t10 t11 t12 ⟨w, bd, kv1, kv2, kv3, hl, ht, hruT, kuT, hruB, kuB, hruM⟩ ⟨kuM, hx, hruF, kuF, (by omega), (by omega), (by omega), hruS, kuS, luS, hruK, kuK⟩ ⟨hruC, kuC, hk, hruA, kuA, hruV, kuV, hv0, hruX, kuX, hruY, kuY⟩ ⟨hruR, kuR, hrvR, kvR, hs0, hc0, hs9, hpc, hpm, hru62, ku62, hp0⟩ ⟨hk2, hm1, hm0, hak, ha0, hwi, hlb, hfb, hpb, hsh⟩)
set_option maxHeartbeats 4000000 in
set_option maxRecDepth 100000 in
theorem k_b812 {xs : Nat → Int32} {Ls : Nat} {B : Nat × Nat} {K : Nat → Nat → Nat → Int32 → jZ → jI → jL → Prop} {v1 v2 v3 : Nat} {v4 : Int32} {Z : jZ} {I : jI} {L : jL} {T uT uB uM uF uS uK uC uA uV uX uY uR vR uP x0 x2 u5 u53 u54 u62 x1 uQ vQ uW vW t30 t29 u5c t6 t9 t10 t11 t12 : Nat} (g0 : LG0 B v1 v2 v3 T uT uB uM Z I) (g1 : LG1 v1 v2 v4 uT uB uM uF uS uK Z I) (g2 : LG2 v1 v2 uF uS uK uC uA uV uX uY Z I) (g3 : LG3 v1 v2 uF uS uX uY uR vR uP x0 x2 u5 u53 u54 u62 Z I) (g4 : LG4 v1 v2 uF uS uA uP x0 u62 x1 uQ vQ uW vW t30 t29 u5c t6 t9 t10 t11 t12 Z I) (hv : 0 ≤ v4.toInt ∧ v4.toInt + 6 ≤ (Ls : Int) ∧ (Ls : Int) ≤ 3072) (hK : ∀ (Z : jZ) (I : jI) (L : jL) (x : Int32), x = v4 + 6 → LInv B v1 v2 v3 x Z I → K v1 v2 v3 x Z I L) : f_L_law_b812 xs Ls B K v1 v2 v3 v4 Z I L := by
  obtain ⟨w, bd, kv1, kv2, kv3, hl, ht, hruT, kuT, hruB, kuB, hruM⟩ := g0
  obtain ⟨kuM, hx, hruF, kuF, hx1, hx2, hx3, hruS, kuS, luS, hruK, kuK⟩ := g1
  obtain ⟨hruC, kuC, hk, hruA, kuA, hruV, kuV, hv0, hruX, kuX, hruY, kuY⟩ := g2
  obtain ⟨hruR, kuR, hrvR, kvR, hs0, hc0, hs9, hpc, hpm, hru62, ku62, hp0⟩ := g3
  obtain ⟨hk2, hm1, hm0, hak, ha0, hwi, hlb, hfb, hpb, hsh⟩ := g4
  unfold f_L_law_b812
  refine ⟨vi_of (i_add rfl (show (1 : Int32).toInt = 1 from rfl) (by omega) (by omega)) (by omega) (by omega), ?_⟩
  refine ⟨vi_of (i_add rfl (show (2 : Int32).toInt = 2 from rfl) (by omega) (by omega)) (by omega) (by omega), ?_⟩
  have wo := w
  refine s_X11_rests w v1 _ _ kv1  (fun r1 I L w f => ?_)
  have ht : (I v1 4).toInt + (T : Int) = 6 := by rw [f.2.2.1 v1 11 4 kv1 (by decide) (by decide)]; exact ht
  have ha0 := ARr_same (f.2.2.2 uF 8 2 uQ kuF hak.1 (by rw [hak.2.1.2]; rfl) rfl (by decide)) (f.2.2.2 v2 12 3 vQ kv2 hak.2.2.1 (by rw [hak.2.2.2.1.2]; rfl) rfl (by decide)) (congrArg Int32.toInt (f.2.2.1 v2 12 0 kv2 (by decide) (by decide))) ha0
  have hwi := WI_fr f kuF kv2 (by decide) hwi
  have hlb := LB_fr f wo kuF kv2 (by decide) hlb
  have hfb := FB_fr f kuF kv2 (by decide) hfb
  have hpb := PB_fr f kv1 kuA kv2 (by decide) hpb
  have hsh : (I v2 39).toInt = -1 := by rw [f.2.2.1 v2 12 39 kv2 (by decide) (by decide)]; exact hsh
  have hak := AK_fr f wo kuF kv2 kuS luS hru62 ku62 (by decide) hak
  have hm0 := MAI_fr wo hpc.2.2.2.1 hpc.2.2.2.2.1 hm1 f (by decide) (by decide) hm0
  have hp0 := PR_same (EQC_fr f hpc (by decide)) (EQM_fr f kv2 hpm (by decide)) hp0
  have hk2 : KP2 Z I uS u62 (I v2 0).toInt.toNat := by rw [(f.2.2.1 v2 12 0 kv2 (by decide) (by decide))]; exact KP2_fr f wo.1 kuS luS kv2 hru62 ku62 (by decide) (by decide) (by decide) hk2
  have hs0 := ARr_same (f.2.2.2 uF 8 1 uX kuF hruX (by rw [kuX.2]; rfl) rfl (by decide)) (f.2.2.2 v2 12 2 uY kv2 hruY (by rw [kuY.2]; rfl) rfl (by decide)) (congrArg Int32.toInt (f.2.2.1 v2 12 0 kv2 (by decide) (by decide))) hs0
  have hc0 := KC_fr f wo.1 kuS luS kv2 hru62 ku62 (by decide) (by decide) (by decide) (congrArg Int32.toInt (f.2.2.1 v2 12 0 kv2 (by decide) (by decide))) hc0
  have hs9 := ARr_same (f.2.2.2 uF 8 0 uR kuF hruR (by rw [kuR.2]; rfl) rfl (by decide)) (f.2.2.2 v2 12 1 vR kv2 hrvR (by rw [kvR.2]; rfl) rfl (by decide)) (congrArg Int32.toInt (f.2.2.1 v2 12 0 kv2 (by decide) (by decide))) hs9
  have hv0 := PRr_fr f kv1 kuA (eMf f kv2 hruV kuV rfl (by decide)) (by decide) (by decide) hv0
  have hk := HK_fr f kuS kv2 hruK kuK hruC kuC (by decide) (by decide) (by decide) (by decide) hk
  have hx := TBr_fr f kuT hruB kuB kv2 hruM kuM (by decide) (by decide) (by decide) (by decide) hx
  have ea126 := congrArg Int32.toInt (f.2.2.1 uF 8 9 kuF (by decide) (by decide))
  have ea127 := congrArg Int32.toInt (f.2.2.1 v2 12 0 kv2 (by decide) (by decide))
  have ea128 := congrArg Int32.toInt (f.2.2.1 v2 12 7 kv2 (by decide) (by decide))
  have ea129 := congrArg Int32.toInt (f.2.2.1 v1 11 4 kv1 (by decide) (by decide))
  have ea130 := congrArg Int32.toInt (f.2.2.1 v2 12 8 kv2 (by decide) (by decide))
  refine ⟨vi_of (i_add rfl (show (1 : Int32).toInt = 1 from rfl) (by omega) (by omega)) (by omega) (by omega), ?_⟩
  refine ⟨vi_of (i_add rfl (show (2 : Int32).toInt = 2 from rfl) (by omega) (by omega)) (by omega) (by omega), ?_⟩
  have wo := w
  refine s_X12_rests w bd v2 _ _ kv2  (fun r2 Z I L w bd f cp => ?_)
  have ht : (I v1 4).toInt + (T : Int) = 6 := by rw [f.2.2.1 v1 11 4 kv1 (by decide) (by decide)]; exact ht
  have ha0 := ARr_same (f.2.2.2 uF 8 2 uQ kuF hak.1 (by rw [hak.2.1.2]; rfl) rfl (by decide)) (f.2.2.2 v2 12 3 vQ kv2 hak.2.2.1 (by rw [hak.2.2.2.1.2]; rfl) rfl (by decide)) (congrArg Int32.toInt (f.2.2.1 v2 12 0 kv2 (by decide) (by decide))) ha0
  have hwi := WI_fr f kuF kv2 (by decide) hwi
  have hlb := LB_fr f wo kuF kv2 (by decide) hlb
  have hfb := FB_fr f kuF kv2 (by decide) hfb
  have hpb := PB_fr f kv1 kuA kv2 (by decide) hpb
  have hsh : (I v2 39).toInt = -1 := by rw [f.2.2.1 v2 12 39 kv2 (by decide) (by decide)]; exact hsh
  have hak := AK_fr f wo kuF kv2 kuS luS hru62 ku62 (by decide) hak
  have hm0 := MAI_fr wo hpc.2.2.2.1 hpc.2.2.2.2.1 hm1 f (by decide) (by decide) hm0
  have hp0 := PR_same (EQC_fr f hpc (by decide)) (EQM_fr f kv2 hpm (by decide)) hp0
  have hk2 : KP2 Z I uS u62 (I v2 0).toInt.toNat := by rw [(f.2.2.1 v2 12 0 kv2 (by decide) (by decide))]; exact KP2_fr f wo.1 kuS luS kv2 hru62 ku62 (by decide) (by decide) (by decide) hk2
  have hs0 := ARr_same (f.2.2.2 uF 8 1 uX kuF hruX (by rw [kuX.2]; rfl) rfl (by decide)) (f.2.2.2 v2 12 2 uY kv2 hruY (by rw [kuY.2]; rfl) rfl (by decide)) (congrArg Int32.toInt (f.2.2.1 v2 12 0 kv2 (by decide) (by decide))) hs0
  have hc0 := KC_fr f wo.1 kuS luS kv2 hru62 ku62 (by decide) (by decide) (by decide) (congrArg Int32.toInt (f.2.2.1 v2 12 0 kv2 (by decide) (by decide))) hc0
  have hs9 := ARr_same (f.2.2.2 uF 8 0 uR kuF hruR (by rw [kuR.2]; rfl) rfl (by decide)) (f.2.2.2 v2 12 1 vR kv2 hrvR (by rw [kvR.2]; rfl) rfl (by decide)) (congrArg Int32.toInt (f.2.2.1 v2 12 0 kv2 (by decide) (by decide))) hs9
  have hv0 := PRr_fr f kv1 kuA (eMf f kv2 hruV kuV rfl (by decide)) (by decide) (by decide) hv0
  have hk := HK_fr f kuS kv2 hruK kuK hruC kuC (by decide) (by decide) (by decide) (by decide) hk
  have hx := TBr_fr f kuT hruB kuB kv2 hruM kuM (by decide) (by decide) (by decide) (by decide) hx
  have ea131 := congrArg Int32.toInt (f.2.2.1 uF 8 9 kuF (by decide) (by decide))
  have ea132 := congrArg Int32.toInt (f.2.2.1 v2 12 0 kv2 (by decide) (by decide))
  have ea133 := congrArg Int32.toInt (f.2.2.1 v2 12 7 kv2 (by decide) (by decide))
  have ea134 := congrArg Int32.toInt (f.2.2.1 v1 11 4 kv1 (by decide) (by decide))
  have ea135 := congrArg Int32.toInt (f.2.2.1 v2 12 8 kv2 (by decide) (by decide))
  have hm1 := (f.2.1 uP 4 1 hpc.2.2.2.1 (by decide) (by decide)).trans hm1
  have hpc := PCs_x f.1 (fun a c j ka hc => f.2.1 a c j ka (by omega) (by omega)) kv1 hpc
  have hpm := PMs_x f.1 (fun j hj => f.2.1 v2 12 j kv2 (by omega) (by omega)) hpm
  have hru62 := (f.2.1 v2 12 62 kv2 (by decide) (by decide)).trans hru62
  have ku62 := (f.1 _ _ ku62).1
  have hruX := (f.2.1 uF 8 1 kuF (by decide) (by decide)).trans hruX
  have kuX := (f.1 _ _ kuX).1
  have hruY := (f.2.1 v2 12 2 kv2 (by decide) (by decide)).trans hruY
  have kuY := (f.1 _ _ kuY).1
  have hruR := (f.2.1 uF 8 0 kuF (by decide) (by decide)).trans hruR
  have kuR := (f.1 _ _ kuR).1
  have hrvR := (f.2.1 v2 12 1 kv2 (by decide) (by decide)).trans hrvR
  have kvR := (f.1 _ _ kvR).1
  have hruA := (f.2.1 v1 11 3 kv1 (by decide) (by decide)).trans hruA
  have kuA := (f.1 _ _ kuA).1
  have hruV := (f.2.1 v2 12 13 kv2 (by decide) (by decide)).trans hruV
  have kuV := (f.1 _ _ kuV).1
  have hruS := (f.2.1 v1 11 8 kv1 (by decide) (by decide)).trans hruS
  have luS := (f.1 _ _ kuS).2.trans luS
  have kuS := (f.1 _ _ kuS).1
  have hruK := (f.2.1 v2 12 63 kv2 (by decide) (by decide)).trans hruK
  have kuK := (f.1 _ _ kuK).1
  have hruC := (f.2.1 v2 12 64 kv2 (by decide) (by decide)).trans hruC
  have kuC := (f.1 _ _ kuC).1
  have hruB := (f.2.1 uT 10 0 kuT (by decide) (by decide)).trans hruB
  have hruM := (f.2.1 v2 12 18 kv2 (by decide) (by decide)).trans hruM
  have kuB := (f.1 _ _ kuB).1
  have kuM := (f.1 _ _ kuM).1
  have hruT := (f.2.1 v1 11 0 kv1 (by decide) (by decide)).trans hruT
  have kuT := (f.1 _ _ kuT).1
  have hruF := (f.2.1 v1 11 2 kv1 (by decide) (by decide)).trans hruF
  have kuF := (f.1 _ _ kuF).1
  have hl : jlen Z v3 = 1 := (f.1 _ _ kv3).2.trans hl
  have kv1 := (f.1 _ _ kv1).1
  have kv2 := (f.1 _ _ kv2).1
  have kv3 := (f.1 _ _ kv3).1
  unfold f_L_law_b1760
  intro x ex
  have tx : x.toInt = v4.toInt + 6 := by rw [ex]; exact i_add rfl (show (6 : Int32).toInt = 6 from rfl) (by omega) (by omega)
  exact hK _ _ _ x ex (LInv_mk (Z := Z) (I := I) T uT uB uM uF uS uK uC uA uV uX uY uR vR uP x0 x2 u5 u53 u54 u62 x1 uQ vQ uW vW t30 t29 u5c t6 t9 t10 t11 t12 ⟨w, bd, kv1, kv2, kv3, hl, ht, hruT, kuT, hruB, kuB, hruM⟩ ⟨kuM, hx, hruF, kuF, (by omega), (by omega), (by omega), hruS, kuS, luS, hruK, kuK⟩ ⟨hruC, kuC, hk, hruA, kuA, hruV, kuV, hv0, hruX, kuX, hruY, kuY⟩ ⟨hruR, kuR, hrvR, kvR, hs0, hc0, hs9, hpc, hpm, hru62, ku62, hp0⟩ ⟨hk2, hm1, hm0, hak, ha0, hwi, hlb, hfb, hpb, hsh⟩)
set_option maxHeartbeats 4000000 in
set_option maxRecDepth 100000 in
theorem k_b849 {xs : Nat → Int32} {Ls : Nat} {B : Nat × Nat} {K : Nat → Nat → Nat → Int32 → jZ → jI → jL → Prop} {v1 v2 v3 : Nat} {v4 : Int32} {Z : jZ} {I : jI} {L : jL} {T uT uB uM uF uS uK uC uA uV uX uY uR vR uP x0 x2 u5 u53 u54 u62 x1 uQ vQ uW vW t30 t29 u5c t6 t9 t10 t11 t12 : Nat} (g0 : LG0 B v1 v2 v3 T uT uB uM Z I) (g1 : LG1 v1 v2 v4 uT uB uM uF uS uK Z I) (g2 : LG2 v1 v2 uF uS uK uC uA uV uX uY Z I) (g3 : LG3 v1 v2 uF uS uX uY uR vR uP x0 x2 u5 u53 u54 u62 Z I) (g4 : LG4 v1 v2 uF uS uA uP x0 u62 x1 uQ vQ uW vW t30 t29 u5c t6 t9 t10 t11 t12 Z I) (hv : 0 ≤ v4.toInt ∧ v4.toInt + 6 ≤ (Ls : Int) ∧ (Ls : Int) ≤ 3072) (hK : ∀ (Z : jZ) (I : jI) (L : jL) (x : Int32), x = v4 + 6 → LInv B v1 v2 v3 x Z I → K v1 v2 v3 x Z I L) : f_L_law_b849 xs Ls B K v1 v2 v3 v4 Z I L := by
  obtain ⟨w, bd, kv1, kv2, kv3, hl, ht, hruT, kuT, hruB, kuB, hruM⟩ := g0
  obtain ⟨kuM, hx, hruF, kuF, hx1, hx2, hx3, hruS, kuS, luS, hruK, kuK⟩ := g1
  obtain ⟨hruC, kuC, hk, hruA, kuA, hruV, kuV, hv0, hruX, kuX, hruY, kuY⟩ := g2
  obtain ⟨hruR, kuR, hrvR, kvR, hs0, hc0, hs9, hpc, hpm, hru62, ku62, hp0⟩ := g3
  obtain ⟨hk2, hm1, hm0, hak, ha0, hwi, hlb, hfb, hpb, hsh⟩ := g4
  unfold f_L_law_b849
  refine ⟨vi_of (i_add rfl (show (1 : Int32).toInt = 1 from rfl) (by omega) (by omega)) (by omega) (by omega), ?_⟩
  have wo := w
  refine s_X11_returns w v1 _ kv1  (fun r1 I L w f => ?_)
  have ht : (I v1 4).toInt + (T : Int) = 6 := by rw [f.2.2.1 v1 11 4 kv1 (by decide) (by decide)]; exact ht
  have ha0 := ARr_same (f.2.2.2 uF 8 2 uQ kuF hak.1 (by rw [hak.2.1.2]; rfl) rfl (by decide)) (f.2.2.2 v2 12 3 vQ kv2 hak.2.2.1 (by rw [hak.2.2.2.1.2]; rfl) rfl (by decide)) (congrArg Int32.toInt (f.2.2.1 v2 12 0 kv2 (by decide) (by decide))) ha0
  have hwi := WI_fr f kuF kv2 (by decide) hwi
  have hlb := LB_fr f wo kuF kv2 (by decide) hlb
  have hfb := FB_fr f kuF kv2 (by decide) hfb
  have hpb := PB_fr f kv1 kuA kv2 (by decide) hpb
  have hsh : (I v2 39).toInt = -1 := by rw [f.2.2.1 v2 12 39 kv2 (by decide) (by decide)]; exact hsh
  have hak := AK_fr f wo kuF kv2 kuS luS hru62 ku62 (by decide) hak
  have hm0 := MAI_fr wo hpc.2.2.2.1 hpc.2.2.2.2.1 hm1 f (by decide) (by decide) hm0
  have hp0 := PR_same (EQC_fr f hpc (by decide)) (EQM_fr f kv2 hpm (by decide)) hp0
  have hk2 : KP2 Z I uS u62 (I v2 0).toInt.toNat := by rw [(f.2.2.1 v2 12 0 kv2 (by decide) (by decide))]; exact KP2_fr f wo.1 kuS luS kv2 hru62 ku62 (by decide) (by decide) (by decide) hk2
  have hs0 := ARr_same (f.2.2.2 uF 8 1 uX kuF hruX (by rw [kuX.2]; rfl) rfl (by decide)) (f.2.2.2 v2 12 2 uY kv2 hruY (by rw [kuY.2]; rfl) rfl (by decide)) (congrArg Int32.toInt (f.2.2.1 v2 12 0 kv2 (by decide) (by decide))) hs0
  have hc0 := KC_fr f wo.1 kuS luS kv2 hru62 ku62 (by decide) (by decide) (by decide) (congrArg Int32.toInt (f.2.2.1 v2 12 0 kv2 (by decide) (by decide))) hc0
  have hs9 := ARr_same (f.2.2.2 uF 8 0 uR kuF hruR (by rw [kuR.2]; rfl) rfl (by decide)) (f.2.2.2 v2 12 1 vR kv2 hrvR (by rw [kvR.2]; rfl) rfl (by decide)) (congrArg Int32.toInt (f.2.2.1 v2 12 0 kv2 (by decide) (by decide))) hs9
  have hv0 := PRr_fr f kv1 kuA (eMf f kv2 hruV kuV rfl (by decide)) (by decide) (by decide) hv0
  have hk := HK_fr f kuS kv2 hruK kuK hruC kuC (by decide) (by decide) (by decide) (by decide) hk
  have hx := TBr_fr f kuT hruB kuB kv2 hruM kuM (by decide) (by decide) (by decide) (by decide) hx
  have ea136 := congrArg Int32.toInt (f.2.2.1 uF 8 9 kuF (by decide) (by decide))
  have ea137 := congrArg Int32.toInt (f.2.2.1 v2 12 0 kv2 (by decide) (by decide))
  have ea138 := congrArg Int32.toInt (f.2.2.1 v2 12 7 kv2 (by decide) (by decide))
  have ea139 := congrArg Int32.toInt (f.2.2.1 v1 11 4 kv1 (by decide) (by decide))
  have ea140 := congrArg Int32.toInt (f.2.2.1 v2 12 8 kv2 (by decide) (by decide))
  refine ⟨vi_of (i_add rfl (show (1 : Int32).toInt = 1 from rfl) (by omega) (by omega)) (by omega) (by omega), ?_⟩
  have wo := w
  refine s_X12_returns w v2 _ kv2  (fun r2 I L w f => ?_)
  have ht : (I v1 4).toInt + (T : Int) = 6 := by rw [f.2.2.1 v1 11 4 kv1 (by decide) (by decide)]; exact ht
  have ha0 := ARr_same (f.2.2.2 uF 8 2 uQ kuF hak.1 (by rw [hak.2.1.2]; rfl) rfl (by decide)) (f.2.2.2 v2 12 3 vQ kv2 hak.2.2.1 (by rw [hak.2.2.2.1.2]; rfl) rfl (by decide)) (congrArg Int32.toInt (f.2.2.1 v2 12 0 kv2 (by decide) (by decide))) ha0
  have hwi := WI_fr f kuF kv2 (by decide) hwi
  have hlb := LB_fr f wo kuF kv2 (by decide) hlb
  have hfb := FB_fr f kuF kv2 (by decide) hfb
  have hpb := PB_fr f kv1 kuA kv2 (by decide) hpb
  have hsh : (I v2 39).toInt = -1 := by rw [f.2.2.1 v2 12 39 kv2 (by decide) (by decide)]; exact hsh
  have hak := AK_fr f wo kuF kv2 kuS luS hru62 ku62 (by decide) hak
  have hm0 := MAI_fr wo hpc.2.2.2.1 hpc.2.2.2.2.1 hm1 f (by decide) (by decide) hm0
  have hp0 := PR_same (EQC_fr f hpc (by decide)) (EQM_fr f kv2 hpm (by decide)) hp0
  have hk2 : KP2 Z I uS u62 (I v2 0).toInt.toNat := by rw [(f.2.2.1 v2 12 0 kv2 (by decide) (by decide))]; exact KP2_fr f wo.1 kuS luS kv2 hru62 ku62 (by decide) (by decide) (by decide) hk2
  have hs0 := ARr_same (f.2.2.2 uF 8 1 uX kuF hruX (by rw [kuX.2]; rfl) rfl (by decide)) (f.2.2.2 v2 12 2 uY kv2 hruY (by rw [kuY.2]; rfl) rfl (by decide)) (congrArg Int32.toInt (f.2.2.1 v2 12 0 kv2 (by decide) (by decide))) hs0
  have hc0 := KC_fr f wo.1 kuS luS kv2 hru62 ku62 (by decide) (by decide) (by decide) (congrArg Int32.toInt (f.2.2.1 v2 12 0 kv2 (by decide) (by decide))) hc0
  have hs9 := ARr_same (f.2.2.2 uF 8 0 uR kuF hruR (by rw [kuR.2]; rfl) rfl (by decide)) (f.2.2.2 v2 12 1 vR kv2 hrvR (by rw [kvR.2]; rfl) rfl (by decide)) (congrArg Int32.toInt (f.2.2.1 v2 12 0 kv2 (by decide) (by decide))) hs9
  have hv0 := PRr_fr f kv1 kuA (eMf f kv2 hruV kuV rfl (by decide)) (by decide) (by decide) hv0
  have hk := HK_fr f kuS kv2 hruK kuK hruC kuC (by decide) (by decide) (by decide) (by decide) hk
  have hx := TBr_fr f kuT hruB kuB kv2 hruM kuM (by decide) (by decide) (by decide) (by decide) hx
  have ea141 := congrArg Int32.toInt (f.2.2.1 uF 8 9 kuF (by decide) (by decide))
  have ea142 := congrArg Int32.toInt (f.2.2.1 v2 12 0 kv2 (by decide) (by decide))
  have ea143 := congrArg Int32.toInt (f.2.2.1 v2 12 7 kv2 (by decide) (by decide))
  have ea144 := congrArg Int32.toInt (f.2.2.1 v1 11 4 kv1 (by decide) (by decide))
  have ea145 := congrArg Int32.toInt (f.2.2.1 v2 12 8 kv2 (by decide) (by decide))
  unfold f_L_law_b1760
  intro x ex
  have tx : x.toInt = v4.toInt + 6 := by rw [ex]; exact i_add rfl (show (6 : Int32).toInt = 6 from rfl) (by omega) (by omega)
  exact hK _ _ _ x ex (LInv_mk (Z := Z) (I := I) T uT uB uM uF uS uK uC uA uV uX uY uR vR uP x0 x2 u5 u53 u54 u62 x1 uQ vQ uW vW t30 t29 u5c t6 t9 t10 t11 t12 ⟨w, bd, kv1, kv2, kv3, hl, ht, hruT, kuT, hruB, kuB, hruM⟩ ⟨kuM, hx, hruF, kuF, (by omega), (by omega), (by omega), hruS, kuS, luS, hruK, kuK⟩ ⟨hruC, kuC, hk, hruA, kuA, hruV, kuV, hv0, hruX, kuX, hruY, kuY⟩ ⟨hruR, kuR, hrvR, kvR, hs0, hc0, hs9, hpc, hpm, hru62, ku62, hp0⟩ ⟨hk2, hm1, hm0, hak, ha0, hwi, hlb, hfb, hpb, hsh⟩)
set_option maxHeartbeats 4000000 in
set_option maxRecDepth 100000 in
theorem k_b874 {xs : Nat → Int32} {Ls : Nat} {B : Nat × Nat} {K : Nat → Nat → Nat → Int32 → jZ → jI → jL → Prop} {v1 v2 v3 : Nat} {v4 : Int32} {Z : jZ} {I : jI} {L : jL} {T uT uB uM uF uS uK uC uA uV uX uY uR vR uP x0 x2 u5 u53 u54 u62 x1 uQ vQ uW vW t30 t29 u5c t6 t9 t10 t11 t12 : Nat} (g0 : LG0 B v1 v2 v3 T uT uB uM Z I) (g1 : LG1 v1 v2 v4 uT uB uM uF uS uK Z I) (g2 : LG2 v1 v2 uF uS uK uC uA uV uX uY Z I) (g3 : LG3 v1 v2 uF uS uX uY uR vR uP x0 x2 u5 u53 u54 u62 Z I) (g4 : LG4 v1 v2 uF uS uA uP x0 u62 x1 uQ vQ uW vW t30 t29 u5c t6 t9 t10 t11 t12 Z I) (hv : 0 ≤ v4.toInt ∧ v4.toInt + 6 ≤ (Ls : Int) ∧ (Ls : Int) ≤ 3072) (hK : ∀ (Z : jZ) (I : jI) (L : jL) (x : Int32), x = v4 + 6 → LInv B v1 v2 v3 x Z I → K v1 v2 v3 x Z I L) : f_L_law_b874 xs Ls B K v1 v2 v3 v4 Z I L := by
  obtain ⟨w, bd, kv1, kv2, kv3, hl, ht, hruT, kuT, hruB, kuB, hruM⟩ := g0
  obtain ⟨kuM, hx, hruF, kuF, hx1, hx2, hx3, hruS, kuS, luS, hruK, kuK⟩ := g1
  obtain ⟨hruC, kuC, hk, hruA, kuA, hruV, kuV, hv0, hruX, kuX, hruY, kuY⟩ := g2
  obtain ⟨hruR, kuR, hrvR, kvR, hs0, hc0, hs9, hpc, hpm, hru62, ku62, hp0⟩ := g3
  obtain ⟨hk2, hm1, hm0, hak, ha0, hwi, hlb, hfb, hpb, hsh⟩ := g4
  unfold f_L_law_b874
  refine ⟨vi_of (i_add rfl (show (1 : Int32).toInt = 1 from rfl) (by omega) (by omega)) (by omega) (by omega), ?_⟩
  have wo := w
  refine s_X11_earned w v1 _ kv1  (fun r1 I L w f => ?_)
  have ht : (I v1 4).toInt + (T : Int) = 6 := by rw [f.2.2.1 v1 11 4 kv1 (by decide) (by decide)]; exact ht
  have ha0 := ARr_same (f.2.2.2 uF 8 2 uQ kuF hak.1 (by rw [hak.2.1.2]; rfl) rfl (by decide)) (f.2.2.2 v2 12 3 vQ kv2 hak.2.2.1 (by rw [hak.2.2.2.1.2]; rfl) rfl (by decide)) (congrArg Int32.toInt (f.2.2.1 v2 12 0 kv2 (by decide) (by decide))) ha0
  have hwi := WI_fr f kuF kv2 (by decide) hwi
  have hlb := LB_fr f wo kuF kv2 (by decide) hlb
  have hfb := FB_fr f kuF kv2 (by decide) hfb
  have hpb := PB_fr f kv1 kuA kv2 (by decide) hpb
  have hsh : (I v2 39).toInt = -1 := by rw [f.2.2.1 v2 12 39 kv2 (by decide) (by decide)]; exact hsh
  have hak := AK_fr f wo kuF kv2 kuS luS hru62 ku62 (by decide) hak
  have hm0 := MAI_fr wo hpc.2.2.2.1 hpc.2.2.2.2.1 hm1 f (by decide) (by decide) hm0
  have hp0 := PR_same (EQC_fr f hpc (by decide)) (EQM_fr f kv2 hpm (by decide)) hp0
  have hk2 : KP2 Z I uS u62 (I v2 0).toInt.toNat := by rw [(f.2.2.1 v2 12 0 kv2 (by decide) (by decide))]; exact KP2_fr f wo.1 kuS luS kv2 hru62 ku62 (by decide) (by decide) (by decide) hk2
  have hs0 := ARr_same (f.2.2.2 uF 8 1 uX kuF hruX (by rw [kuX.2]; rfl) rfl (by decide)) (f.2.2.2 v2 12 2 uY kv2 hruY (by rw [kuY.2]; rfl) rfl (by decide)) (congrArg Int32.toInt (f.2.2.1 v2 12 0 kv2 (by decide) (by decide))) hs0
  have hc0 := KC_fr f wo.1 kuS luS kv2 hru62 ku62 (by decide) (by decide) (by decide) (congrArg Int32.toInt (f.2.2.1 v2 12 0 kv2 (by decide) (by decide))) hc0
  have hs9 := ARr_same (f.2.2.2 uF 8 0 uR kuF hruR (by rw [kuR.2]; rfl) rfl (by decide)) (f.2.2.2 v2 12 1 vR kv2 hrvR (by rw [kvR.2]; rfl) rfl (by decide)) (congrArg Int32.toInt (f.2.2.1 v2 12 0 kv2 (by decide) (by decide))) hs9
  have hv0 := PRr_fr f kv1 kuA (eMf f kv2 hruV kuV rfl (by decide)) (by decide) (by decide) hv0
  have hk := HK_fr f kuS kv2 hruK kuK hruC kuC (by decide) (by decide) (by decide) (by decide) hk
  have hx := TBr_fr f kuT hruB kuB kv2 hruM kuM (by decide) (by decide) (by decide) (by decide) hx
  have ea146 := congrArg Int32.toInt (f.2.2.1 uF 8 9 kuF (by decide) (by decide))
  have ea147 := congrArg Int32.toInt (f.2.2.1 v2 12 0 kv2 (by decide) (by decide))
  have ea148 := congrArg Int32.toInt (f.2.2.1 v2 12 7 kv2 (by decide) (by decide))
  have ea149 := congrArg Int32.toInt (f.2.2.1 v1 11 4 kv1 (by decide) (by decide))
  have ea150 := congrArg Int32.toInt (f.2.2.1 v2 12 8 kv2 (by decide) (by decide))
  refine ⟨vi_of (i_add rfl (show (1 : Int32).toInt = 1 from rfl) (by omega) (by omega)) (by omega) (by omega), ?_⟩
  have wo := w
  refine s_X12_earned w v2 _ kv2  (fun r2 I L w f => ?_)
  have ht : (I v1 4).toInt + (T : Int) = 6 := by rw [f.2.2.1 v1 11 4 kv1 (by decide) (by decide)]; exact ht
  have ha0 := ARr_same (f.2.2.2 uF 8 2 uQ kuF hak.1 (by rw [hak.2.1.2]; rfl) rfl (by decide)) (f.2.2.2 v2 12 3 vQ kv2 hak.2.2.1 (by rw [hak.2.2.2.1.2]; rfl) rfl (by decide)) (congrArg Int32.toInt (f.2.2.1 v2 12 0 kv2 (by decide) (by decide))) ha0
  have hwi := WI_fr f kuF kv2 (by decide) hwi
  have hlb := LB_fr f wo kuF kv2 (by decide) hlb
  have hfb := FB_fr f kuF kv2 (by decide) hfb
  have hpb := PB_fr f kv1 kuA kv2 (by decide) hpb
  have hsh : (I v2 39).toInt = -1 := by rw [f.2.2.1 v2 12 39 kv2 (by decide) (by decide)]; exact hsh
  have hak := AK_fr f wo kuF kv2 kuS luS hru62 ku62 (by decide) hak
  have hm0 := MAI_fr wo hpc.2.2.2.1 hpc.2.2.2.2.1 hm1 f (by decide) (by decide) hm0
  have hp0 := PR_same (EQC_fr f hpc (by decide)) (EQM_fr f kv2 hpm (by decide)) hp0
  have hk2 : KP2 Z I uS u62 (I v2 0).toInt.toNat := by rw [(f.2.2.1 v2 12 0 kv2 (by decide) (by decide))]; exact KP2_fr f wo.1 kuS luS kv2 hru62 ku62 (by decide) (by decide) (by decide) hk2
  have hs0 := ARr_same (f.2.2.2 uF 8 1 uX kuF hruX (by rw [kuX.2]; rfl) rfl (by decide)) (f.2.2.2 v2 12 2 uY kv2 hruY (by rw [kuY.2]; rfl) rfl (by decide)) (congrArg Int32.toInt (f.2.2.1 v2 12 0 kv2 (by decide) (by decide))) hs0
  have hc0 := KC_fr f wo.1 kuS luS kv2 hru62 ku62 (by decide) (by decide) (by decide) (congrArg Int32.toInt (f.2.2.1 v2 12 0 kv2 (by decide) (by decide))) hc0
  have hs9 := ARr_same (f.2.2.2 uF 8 0 uR kuF hruR (by rw [kuR.2]; rfl) rfl (by decide)) (f.2.2.2 v2 12 1 vR kv2 hrvR (by rw [kvR.2]; rfl) rfl (by decide)) (congrArg Int32.toInt (f.2.2.1 v2 12 0 kv2 (by decide) (by decide))) hs9
  have hv0 := PRr_fr f kv1 kuA (eMf f kv2 hruV kuV rfl (by decide)) (by decide) (by decide) hv0
  have hk := HK_fr f kuS kv2 hruK kuK hruC kuC (by decide) (by decide) (by decide) (by decide) hk
  have hx := TBr_fr f kuT hruB kuB kv2 hruM kuM (by decide) (by decide) (by decide) (by decide) hx
  have ea151 := congrArg Int32.toInt (f.2.2.1 uF 8 9 kuF (by decide) (by decide))
  have ea152 := congrArg Int32.toInt (f.2.2.1 v2 12 0 kv2 (by decide) (by decide))
  have ea153 := congrArg Int32.toInt (f.2.2.1 v2 12 7 kv2 (by decide) (by decide))
  have ea154 := congrArg Int32.toInt (f.2.2.1 v1 11 4 kv1 (by decide) (by decide))
  have ea155 := congrArg Int32.toInt (f.2.2.1 v2 12 8 kv2 (by decide) (by decide))
  unfold f_L_law_b1760
  intro x ex
  have tx : x.toInt = v4.toInt + 6 := by rw [ex]; exact i_add rfl (show (6 : Int32).toInt = 6 from rfl) (by omega) (by omega)
  exact hK _ _ _ x ex (LInv_mk (Z := Z) (I := I) T uT uB uM uF uS uK uC uA uV uX uY uR vR uP x0 x2 u5 u53 u54 u62 x1 uQ vQ uW vW t30 t29 u5c t6 t9 t10 t11 t12 ⟨w, bd, kv1, kv2, kv3, hl, ht, hruT, kuT, hruB, kuB, hruM⟩ ⟨kuM, hx, hruF, kuF, (by omega), (by omega), (by omega), hruS, kuS, luS, hruK, kuK⟩ ⟨hruC, kuC, hk, hruA, kuA, hruV, kuV, hv0, hruX, kuX, hruY, kuY⟩ ⟨hruR, kuR, hrvR, kvR, hs0, hc0, hs9, hpc, hpm, hru62, ku62, hp0⟩ ⟨hk2, hm1, hm0, hak, ha0, hwi, hlb, hfb, hpb, hsh⟩)
set_option maxHeartbeats 4000000 in
set_option maxRecDepth 100000 in
theorem k_b899 {xs : Nat → Int32} {Ls : Nat} {B : Nat × Nat} {K : Nat → Nat → Nat → Int32 → jZ → jI → jL → Prop} {v1 v2 v3 : Nat} {v4 : Int32} {Z : jZ} {I : jI} {L : jL} {T uT uB uM uF uS uK uC uA uV uX uY uR vR uP x0 x2 u5 u53 u54 u62 x1 uQ vQ uW vW t30 t29 u5c t6 t9 t10 t11 t12 : Nat} (g0 : LG0 B v1 v2 v3 T uT uB uM Z I) (g1 : LG1 v1 v2 v4 uT uB uM uF uS uK Z I) (g2 : LG2 v1 v2 uF uS uK uC uA uV uX uY Z I) (g3 : LG3 v1 v2 uF uS uX uY uR vR uP x0 x2 u5 u53 u54 u62 Z I) (g4 : LG4 v1 v2 uF uS uA uP x0 u62 x1 uQ vQ uW vW t30 t29 u5c t6 t9 t10 t11 t12 Z I) (hv : 0 ≤ v4.toInt ∧ v4.toInt + 6 ≤ (Ls : Int) ∧ (Ls : Int) ≤ 3072) (hK : ∀ (Z : jZ) (I : jI) (L : jL) (x : Int32), x = v4 + 6 → LInv B v1 v2 v3 x Z I → K v1 v2 v3 x Z I L) : f_L_law_b899 xs Ls B K v1 v2 v3 v4 Z I L := by
  obtain ⟨w, bd, kv1, kv2, kv3, hl, ht, hruT, kuT, hruB, kuB, hruM⟩ := g0
  obtain ⟨kuM, hx, hruF, kuF, hx1, hx2, hx3, hruS, kuS, luS, hruK, kuK⟩ := g1
  obtain ⟨hruC, kuC, hk, hruA, kuA, hruV, kuV, hv0, hruX, kuX, hruY, kuY⟩ := g2
  obtain ⟨hruR, kuR, hrvR, kvR, hs0, hc0, hs9, hpc, hpm, hru62, ku62, hp0⟩ := g3
  obtain ⟨hk2, hm1, hm0, hak, ha0, hwi, hlb, hfb, hpb, hsh⟩ := g4
  unfold f_L_law_b899
  refine ⟨vi_of (i_add rfl (show (1 : Int32).toInt = 1 from rfl) (by omega) (by omega)) (by omega) (by omega), ?_⟩
  have wo := w
  refine s_X11_climb w bd v1 _ kv1  (fun r1 Z I L w bd f cp => ?_)
  have ht : (I v1 4).toInt + (T : Int) = 6 := by rw [f.2.2.1 v1 11 4 kv1 (by decide) (by decide)]; exact ht
  have ha0 := ARr_same (f.2.2.2 uF 8 2 uQ kuF hak.1 (by rw [hak.2.1.2]; rfl) rfl (by decide)) (f.2.2.2 v2 12 3 vQ kv2 hak.2.2.1 (by rw [hak.2.2.2.1.2]; rfl) rfl (by decide)) (congrArg Int32.toInt (f.2.2.1 v2 12 0 kv2 (by decide) (by decide))) ha0
  have hwi := WI_fr f kuF kv2 (by decide) hwi
  have hlb := LB_fr f wo kuF kv2 (by decide) hlb
  have hfb := FB_fr f kuF kv2 (by decide) hfb
  have hpb := PB_fr f kv1 kuA kv2 (by decide) hpb
  have hsh : (I v2 39).toInt = -1 := by rw [f.2.2.1 v2 12 39 kv2 (by decide) (by decide)]; exact hsh
  have hak := AK_fr f wo kuF kv2 kuS luS hru62 ku62 (by decide) hak
  have hm0 := MAI_fr wo hpc.2.2.2.1 hpc.2.2.2.2.1 hm1 f (by decide) (by decide) hm0
  have hp0 := PR_same (EQC_fr f hpc (by decide)) (EQM_fr f kv2 hpm (by decide)) hp0
  have hk2 : KP2 Z I uS u62 (I v2 0).toInt.toNat := by rw [(f.2.2.1 v2 12 0 kv2 (by decide) (by decide))]; exact KP2_fr f wo.1 kuS luS kv2 hru62 ku62 (by decide) (by decide) (by decide) hk2
  have hs0 := ARr_same (f.2.2.2 uF 8 1 uX kuF hruX (by rw [kuX.2]; rfl) rfl (by decide)) (f.2.2.2 v2 12 2 uY kv2 hruY (by rw [kuY.2]; rfl) rfl (by decide)) (congrArg Int32.toInt (f.2.2.1 v2 12 0 kv2 (by decide) (by decide))) hs0
  have hc0 := KC_fr f wo.1 kuS luS kv2 hru62 ku62 (by decide) (by decide) (by decide) (congrArg Int32.toInt (f.2.2.1 v2 12 0 kv2 (by decide) (by decide))) hc0
  have hs9 := ARr_same (f.2.2.2 uF 8 0 uR kuF hruR (by rw [kuR.2]; rfl) rfl (by decide)) (f.2.2.2 v2 12 1 vR kv2 hrvR (by rw [kvR.2]; rfl) rfl (by decide)) (congrArg Int32.toInt (f.2.2.1 v2 12 0 kv2 (by decide) (by decide))) hs9
  have hv0 := PRr_fr f kv1 kuA (eMf f kv2 hruV kuV rfl (by decide)) (by decide) (by decide) hv0
  have hk := HK_fr f kuS kv2 hruK kuK hruC kuC (by decide) (by decide) (by decide) (by decide) hk
  have hx := TBr_fr f kuT hruB kuB kv2 hruM kuM (by decide) (by decide) (by decide) (by decide) hx
  have ea156 := congrArg Int32.toInt (f.2.2.1 uF 8 9 kuF (by decide) (by decide))
  have ea157 := congrArg Int32.toInt (f.2.2.1 v2 12 0 kv2 (by decide) (by decide))
  have ea158 := congrArg Int32.toInt (f.2.2.1 v2 12 7 kv2 (by decide) (by decide))
  have ea159 := congrArg Int32.toInt (f.2.2.1 v1 11 4 kv1 (by decide) (by decide))
  have ea160 := congrArg Int32.toInt (f.2.2.1 v2 12 8 kv2 (by decide) (by decide))
  have hm1 := (f.2.1 uP 4 1 hpc.2.2.2.1 (by decide) (by decide)).trans hm1
  have hpc := PCs_x f.1 (fun a c j ka hc => f.2.1 a c j ka (by omega) (by omega)) kv1 hpc
  have hpm := PMs_x f.1 (fun j hj => f.2.1 v2 12 j kv2 (by omega) (by omega)) hpm
  have hru62 := (f.2.1 v2 12 62 kv2 (by decide) (by decide)).trans hru62
  have ku62 := (f.1 _ _ ku62).1
  have hruX := (f.2.1 uF 8 1 kuF (by decide) (by decide)).trans hruX
  have kuX := (f.1 _ _ kuX).1
  have hruY := (f.2.1 v2 12 2 kv2 (by decide) (by decide)).trans hruY
  have kuY := (f.1 _ _ kuY).1
  have hruR := (f.2.1 uF 8 0 kuF (by decide) (by decide)).trans hruR
  have kuR := (f.1 _ _ kuR).1
  have hrvR := (f.2.1 v2 12 1 kv2 (by decide) (by decide)).trans hrvR
  have kvR := (f.1 _ _ kvR).1
  have hruA := (f.2.1 v1 11 3 kv1 (by decide) (by decide)).trans hruA
  have kuA := (f.1 _ _ kuA).1
  have hruV := (f.2.1 v2 12 13 kv2 (by decide) (by decide)).trans hruV
  have kuV := (f.1 _ _ kuV).1
  have hruS := (f.2.1 v1 11 8 kv1 (by decide) (by decide)).trans hruS
  have luS := (f.1 _ _ kuS).2.trans luS
  have kuS := (f.1 _ _ kuS).1
  have hruK := (f.2.1 v2 12 63 kv2 (by decide) (by decide)).trans hruK
  have kuK := (f.1 _ _ kuK).1
  have hruC := (f.2.1 v2 12 64 kv2 (by decide) (by decide)).trans hruC
  have kuC := (f.1 _ _ kuC).1
  have hruB := (f.2.1 uT 10 0 kuT (by decide) (by decide)).trans hruB
  have hruM := (f.2.1 v2 12 18 kv2 (by decide) (by decide)).trans hruM
  have kuB := (f.1 _ _ kuB).1
  have kuM := (f.1 _ _ kuM).1
  have hruT := (f.2.1 v1 11 0 kv1 (by decide) (by decide)).trans hruT
  have kuT := (f.1 _ _ kuT).1
  have hruF := (f.2.1 v1 11 2 kv1 (by decide) (by decide)).trans hruF
  have kuF := (f.1 _ _ kuF).1
  have hl : jlen Z v3 = 1 := (f.1 _ _ kv3).2.trans hl
  have kv1 := (f.1 _ _ kv1).1
  have kv2 := (f.1 _ _ kv2).1
  have kv3 := (f.1 _ _ kv3).1
  refine ⟨vi_of (i_add rfl (show (1 : Int32).toInt = 1 from rfl) (by omega) (by omega)) (by omega) (by omega), ?_⟩
  have wo := w
  refine s_X12_climb w bd v2 _ kv2  (fun r2 Z I L w bd f cp => ?_)
  have ht : (I v1 4).toInt + (T : Int) = 6 := by rw [f.2.2.1 v1 11 4 kv1 (by decide) (by decide)]; exact ht
  have ha0 := ARr_same (f.2.2.2 uF 8 2 uQ kuF hak.1 (by rw [hak.2.1.2]; rfl) rfl (by decide)) (f.2.2.2 v2 12 3 vQ kv2 hak.2.2.1 (by rw [hak.2.2.2.1.2]; rfl) rfl (by decide)) (congrArg Int32.toInt (f.2.2.1 v2 12 0 kv2 (by decide) (by decide))) ha0
  have hwi := WI_fr f kuF kv2 (by decide) hwi
  have hlb := LB_fr f wo kuF kv2 (by decide) hlb
  have hfb := FB_fr f kuF kv2 (by decide) hfb
  have hpb := PB_fr f kv1 kuA kv2 (by decide) hpb
  have hsh : (I v2 39).toInt = -1 := by rw [f.2.2.1 v2 12 39 kv2 (by decide) (by decide)]; exact hsh
  have hak := AK_fr f wo kuF kv2 kuS luS hru62 ku62 (by decide) hak
  have hm0 := MAI_fr wo hpc.2.2.2.1 hpc.2.2.2.2.1 hm1 f (by decide) (by decide) hm0
  have hp0 := PR_same (EQC_fr f hpc (by decide)) (EQM_fr f kv2 hpm (by decide)) hp0
  have hk2 : KP2 Z I uS u62 (I v2 0).toInt.toNat := by rw [(f.2.2.1 v2 12 0 kv2 (by decide) (by decide))]; exact KP2_fr f wo.1 kuS luS kv2 hru62 ku62 (by decide) (by decide) (by decide) hk2
  have hs0 := ARr_same (f.2.2.2 uF 8 1 uX kuF hruX (by rw [kuX.2]; rfl) rfl (by decide)) (f.2.2.2 v2 12 2 uY kv2 hruY (by rw [kuY.2]; rfl) rfl (by decide)) (congrArg Int32.toInt (f.2.2.1 v2 12 0 kv2 (by decide) (by decide))) hs0
  have hc0 := KC_fr f wo.1 kuS luS kv2 hru62 ku62 (by decide) (by decide) (by decide) (congrArg Int32.toInt (f.2.2.1 v2 12 0 kv2 (by decide) (by decide))) hc0
  have hs9 := ARr_same (f.2.2.2 uF 8 0 uR kuF hruR (by rw [kuR.2]; rfl) rfl (by decide)) (f.2.2.2 v2 12 1 vR kv2 hrvR (by rw [kvR.2]; rfl) rfl (by decide)) (congrArg Int32.toInt (f.2.2.1 v2 12 0 kv2 (by decide) (by decide))) hs9
  have hv0 := PRr_fr f kv1 kuA (eMf f kv2 hruV kuV rfl (by decide)) (by decide) (by decide) hv0
  have hk := HK_fr f kuS kv2 hruK kuK hruC kuC (by decide) (by decide) (by decide) (by decide) hk
  have hx := TBr_fr f kuT hruB kuB kv2 hruM kuM (by decide) (by decide) (by decide) (by decide) hx
  have ea161 := congrArg Int32.toInt (f.2.2.1 uF 8 9 kuF (by decide) (by decide))
  have ea162 := congrArg Int32.toInt (f.2.2.1 v2 12 0 kv2 (by decide) (by decide))
  have ea163 := congrArg Int32.toInt (f.2.2.1 v2 12 7 kv2 (by decide) (by decide))
  have ea164 := congrArg Int32.toInt (f.2.2.1 v1 11 4 kv1 (by decide) (by decide))
  have ea165 := congrArg Int32.toInt (f.2.2.1 v2 12 8 kv2 (by decide) (by decide))
  have hm1 := (f.2.1 uP 4 1 hpc.2.2.2.1 (by decide) (by decide)).trans hm1
  have hpc := PCs_x f.1 (fun a c j ka hc => f.2.1 a c j ka (by omega) (by omega)) kv1 hpc
  have hpm := PMs_x f.1 (fun j hj => f.2.1 v2 12 j kv2 (by omega) (by omega)) hpm
  have hru62 := (f.2.1 v2 12 62 kv2 (by decide) (by decide)).trans hru62
  have ku62 := (f.1 _ _ ku62).1
  have hruX := (f.2.1 uF 8 1 kuF (by decide) (by decide)).trans hruX
  have kuX := (f.1 _ _ kuX).1
  have hruY := (f.2.1 v2 12 2 kv2 (by decide) (by decide)).trans hruY
  have kuY := (f.1 _ _ kuY).1
  have hruR := (f.2.1 uF 8 0 kuF (by decide) (by decide)).trans hruR
  have kuR := (f.1 _ _ kuR).1
  have hrvR := (f.2.1 v2 12 1 kv2 (by decide) (by decide)).trans hrvR
  have kvR := (f.1 _ _ kvR).1
  have hruA := (f.2.1 v1 11 3 kv1 (by decide) (by decide)).trans hruA
  have kuA := (f.1 _ _ kuA).1
  have hruV := (f.2.1 v2 12 13 kv2 (by decide) (by decide)).trans hruV
  have kuV := (f.1 _ _ kuV).1
  have hruS := (f.2.1 v1 11 8 kv1 (by decide) (by decide)).trans hruS
  have luS := (f.1 _ _ kuS).2.trans luS
  have kuS := (f.1 _ _ kuS).1
  have hruK := (f.2.1 v2 12 63 kv2 (by decide) (by decide)).trans hruK
  have kuK := (f.1 _ _ kuK).1
  have hruC := (f.2.1 v2 12 64 kv2 (by decide) (by decide)).trans hruC
  have kuC := (f.1 _ _ kuC).1
  have hruB := (f.2.1 uT 10 0 kuT (by decide) (by decide)).trans hruB
  have hruM := (f.2.1 v2 12 18 kv2 (by decide) (by decide)).trans hruM
  have kuB := (f.1 _ _ kuB).1
  have kuM := (f.1 _ _ kuM).1
  have hruT := (f.2.1 v1 11 0 kv1 (by decide) (by decide)).trans hruT
  have kuT := (f.1 _ _ kuT).1
  have hruF := (f.2.1 v1 11 2 kv1 (by decide) (by decide)).trans hruF
  have kuF := (f.1 _ _ kuF).1
  have hl : jlen Z v3 = 1 := (f.1 _ _ kv3).2.trans hl
  have kv1 := (f.1 _ _ kv1).1
  have kv2 := (f.1 _ _ kv2).1
  have kv3 := (f.1 _ _ kv3).1
  unfold f_L_law_b1760
  intro x ex
  have tx : x.toInt = v4.toInt + 6 := by rw [ex]; exact i_add rfl (show (6 : Int32).toInt = 6 from rfl) (by omega) (by omega)
  exact hK _ _ _ x ex (LInv_mk (Z := Z) (I := I) T uT uB uM uF uS uK uC uA uV uX uY uR vR uP x0 x2 u5 u53 u54 u62 x1 uQ vQ uW vW t30 t29 u5c t6 t9 t10 t11 t12 ⟨w, bd, kv1, kv2, kv3, hl, ht, hruT, kuT, hruB, kuB, hruM⟩ ⟨kuM, hx, hruF, kuF, (by omega), (by omega), (by omega), hruS, kuS, luS, hruK, kuK⟩ ⟨hruC, kuC, hk, hruA, kuA, hruV, kuV, hv0, hruX, kuX, hruY, kuY⟩ ⟨hruR, kuR, hrvR, kvR, hs0, hc0, hs9, hpc, hpm, hru62, ku62, hp0⟩ ⟨hk2, hm1, hm0, hak, ha0, hwi, hlb, hfb, hpb, hsh⟩)
set_option maxHeartbeats 4000000 in
set_option maxRecDepth 100000 in
theorem k_b924 {xs : Nat → Int32} {Ls : Nat} {B : Nat × Nat} {K : Nat → Nat → Nat → Int32 → jZ → jI → jL → Prop} {v1 v2 v3 : Nat} {v4 : Int32} {Z : jZ} {I : jI} {L : jL} {T uT uB uM uF uS uK uC uA uV uX uY uR vR uP x0 x2 u5 u53 u54 u62 x1 uQ vQ uW vW t30 t29 u5c t6 t9 t10 t11 t12 : Nat} (g0 : LG0 B v1 v2 v3 T uT uB uM Z I) (g1 : LG1 v1 v2 v4 uT uB uM uF uS uK Z I) (g2 : LG2 v1 v2 uF uS uK uC uA uV uX uY Z I) (g3 : LG3 v1 v2 uF uS uX uY uR vR uP x0 x2 u5 u53 u54 u62 Z I) (g4 : LG4 v1 v2 uF uS uA uP x0 u62 x1 uQ vQ uW vW t30 t29 u5c t6 t9 t10 t11 t12 Z I) (hv : 0 ≤ v4.toInt ∧ v4.toInt + 6 ≤ (Ls : Int) ∧ (Ls : Int) ≤ 3072) (hK : ∀ (Z : jZ) (I : jI) (L : jL) (x : Int32), x = v4 + 6 → LInv B v1 v2 v3 x Z I → K v1 v2 v3 x Z I L) : f_L_law_b924 xs Ls B K v1 v2 v3 v4 Z I L := by
  obtain ⟨w, bd, kv1, kv2, kv3, hl, ht, hruT, kuT, hruB, kuB, hruM⟩ := g0
  obtain ⟨kuM, hx, hruF, kuF, hx1, hx2, hx3, hruS, kuS, luS, hruK, kuK⟩ := g1
  obtain ⟨hruC, kuC, hk, hruA, kuA, hruV, kuV, hv0, hruX, kuX, hruY, kuY⟩ := g2
  obtain ⟨hruR, kuR, hrvR, kvR, hs0, hc0, hs9, hpc, hpm, hru62, ku62, hp0⟩ := g3
  obtain ⟨hk2, hm1, hm0, hak, ha0, hwi, hlb, hfb, hpb, hsh⟩ := g4
  unfold f_L_law_b924
  refine ⟨vi_of (i_add rfl (show (1 : Int32).toInt = 1 from rfl) (by omega) (by omega)) (by omega) (by omega), ?_⟩
  have wo := w
  refine s_X11_knees w bd v1 _ kv1  (fun r1 Z I L w bd f cp => ?_)
  have ht : (I v1 4).toInt + (T : Int) = 6 := by rw [f.2.2.1 v1 11 4 kv1 (by decide) (by decide)]; exact ht
  have ha0 := ARr_same (f.2.2.2 uF 8 2 uQ kuF hak.1 (by rw [hak.2.1.2]; rfl) rfl (by decide)) (f.2.2.2 v2 12 3 vQ kv2 hak.2.2.1 (by rw [hak.2.2.2.1.2]; rfl) rfl (by decide)) (congrArg Int32.toInt (f.2.2.1 v2 12 0 kv2 (by decide) (by decide))) ha0
  have hwi := WI_fr f kuF kv2 (by decide) hwi
  have hlb := LB_fr f wo kuF kv2 (by decide) hlb
  have hfb := FB_fr f kuF kv2 (by decide) hfb
  have hpb := PB_fr f kv1 kuA kv2 (by decide) hpb
  have hsh : (I v2 39).toInt = -1 := by rw [f.2.2.1 v2 12 39 kv2 (by decide) (by decide)]; exact hsh
  have hak := AK_fr f wo kuF kv2 kuS luS hru62 ku62 (by decide) hak
  have hm0 := MAI_fr wo hpc.2.2.2.1 hpc.2.2.2.2.1 hm1 f (by decide) (by decide) hm0
  have hp0 := PR_same (EQC_fr f hpc (by decide)) (EQM_fr f kv2 hpm (by decide)) hp0
  have hk2 : KP2 Z I uS u62 (I v2 0).toInt.toNat := by rw [(f.2.2.1 v2 12 0 kv2 (by decide) (by decide))]; exact KP2_fr f wo.1 kuS luS kv2 hru62 ku62 (by decide) (by decide) (by decide) hk2
  have hs0 := ARr_same (f.2.2.2 uF 8 1 uX kuF hruX (by rw [kuX.2]; rfl) rfl (by decide)) (f.2.2.2 v2 12 2 uY kv2 hruY (by rw [kuY.2]; rfl) rfl (by decide)) (congrArg Int32.toInt (f.2.2.1 v2 12 0 kv2 (by decide) (by decide))) hs0
  have hc0 := KC_fr f wo.1 kuS luS kv2 hru62 ku62 (by decide) (by decide) (by decide) (congrArg Int32.toInt (f.2.2.1 v2 12 0 kv2 (by decide) (by decide))) hc0
  have hs9 := ARr_same (f.2.2.2 uF 8 0 uR kuF hruR (by rw [kuR.2]; rfl) rfl (by decide)) (f.2.2.2 v2 12 1 vR kv2 hrvR (by rw [kvR.2]; rfl) rfl (by decide)) (congrArg Int32.toInt (f.2.2.1 v2 12 0 kv2 (by decide) (by decide))) hs9
  have hv0 := PRr_fr f kv1 kuA (eMf f kv2 hruV kuV rfl (by decide)) (by decide) (by decide) hv0
  have hk := HK_fr f kuS kv2 hruK kuK hruC kuC (by decide) (by decide) (by decide) (by decide) hk
  have hx := TBr_fr f kuT hruB kuB kv2 hruM kuM (by decide) (by decide) (by decide) (by decide) hx
  have ea166 := congrArg Int32.toInt (f.2.2.1 uF 8 9 kuF (by decide) (by decide))
  have ea167 := congrArg Int32.toInt (f.2.2.1 v2 12 0 kv2 (by decide) (by decide))
  have ea168 := congrArg Int32.toInt (f.2.2.1 v2 12 7 kv2 (by decide) (by decide))
  have ea169 := congrArg Int32.toInt (f.2.2.1 v1 11 4 kv1 (by decide) (by decide))
  have ea170 := congrArg Int32.toInt (f.2.2.1 v2 12 8 kv2 (by decide) (by decide))
  have hm1 := (f.2.1 uP 4 1 hpc.2.2.2.1 (by decide) (by decide)).trans hm1
  have hpc := PCs_x f.1 (fun a c j ka hc => f.2.1 a c j ka (by omega) (by omega)) kv1 hpc
  have hpm := PMs_x f.1 (fun j hj => f.2.1 v2 12 j kv2 (by omega) (by omega)) hpm
  have hru62 := (f.2.1 v2 12 62 kv2 (by decide) (by decide)).trans hru62
  have ku62 := (f.1 _ _ ku62).1
  have hruX := (f.2.1 uF 8 1 kuF (by decide) (by decide)).trans hruX
  have kuX := (f.1 _ _ kuX).1
  have hruY := (f.2.1 v2 12 2 kv2 (by decide) (by decide)).trans hruY
  have kuY := (f.1 _ _ kuY).1
  have hruR := (f.2.1 uF 8 0 kuF (by decide) (by decide)).trans hruR
  have kuR := (f.1 _ _ kuR).1
  have hrvR := (f.2.1 v2 12 1 kv2 (by decide) (by decide)).trans hrvR
  have kvR := (f.1 _ _ kvR).1
  have hruA := (f.2.1 v1 11 3 kv1 (by decide) (by decide)).trans hruA
  have kuA := (f.1 _ _ kuA).1
  have hruV := (f.2.1 v2 12 13 kv2 (by decide) (by decide)).trans hruV
  have kuV := (f.1 _ _ kuV).1
  have hruS := (f.2.1 v1 11 8 kv1 (by decide) (by decide)).trans hruS
  have luS := (f.1 _ _ kuS).2.trans luS
  have kuS := (f.1 _ _ kuS).1
  have hruK := (f.2.1 v2 12 63 kv2 (by decide) (by decide)).trans hruK
  have kuK := (f.1 _ _ kuK).1
  have hruC := (f.2.1 v2 12 64 kv2 (by decide) (by decide)).trans hruC
  have kuC := (f.1 _ _ kuC).1
  have hruB := (f.2.1 uT 10 0 kuT (by decide) (by decide)).trans hruB
  have hruM := (f.2.1 v2 12 18 kv2 (by decide) (by decide)).trans hruM
  have kuB := (f.1 _ _ kuB).1
  have kuM := (f.1 _ _ kuM).1
  have hruT := (f.2.1 v1 11 0 kv1 (by decide) (by decide)).trans hruT
  have kuT := (f.1 _ _ kuT).1
  have hruF := (f.2.1 v1 11 2 kv1 (by decide) (by decide)).trans hruF
  have kuF := (f.1 _ _ kuF).1
  have hl : jlen Z v3 = 1 := (f.1 _ _ kv3).2.trans hl
  have kv1 := (f.1 _ _ kv1).1
  have kv2 := (f.1 _ _ kv2).1
  have kv3 := (f.1 _ _ kv3).1
  refine ⟨vi_of (i_add rfl (show (1 : Int32).toInt = 1 from rfl) (by omega) (by omega)) (by omega) (by omega), ?_⟩
  have wo := w
  refine s_X12_knees w bd v2 _ kv2  (fun r2 Z I L w bd f cp => ?_)
  have ht : (I v1 4).toInt + (T : Int) = 6 := by rw [f.2.2.1 v1 11 4 kv1 (by decide) (by decide)]; exact ht
  have ha0 := ARr_same (f.2.2.2 uF 8 2 uQ kuF hak.1 (by rw [hak.2.1.2]; rfl) rfl (by decide)) (f.2.2.2 v2 12 3 vQ kv2 hak.2.2.1 (by rw [hak.2.2.2.1.2]; rfl) rfl (by decide)) (congrArg Int32.toInt (f.2.2.1 v2 12 0 kv2 (by decide) (by decide))) ha0
  have hwi := WI_fr f kuF kv2 (by decide) hwi
  have hlb := LB_fr f wo kuF kv2 (by decide) hlb
  have hfb := FB_fr f kuF kv2 (by decide) hfb
  have hpb := PB_fr f kv1 kuA kv2 (by decide) hpb
  have hsh : (I v2 39).toInt = -1 := by rw [f.2.2.1 v2 12 39 kv2 (by decide) (by decide)]; exact hsh
  have hak := AK_fr f wo kuF kv2 kuS luS hru62 ku62 (by decide) hak
  have hm0 := MAI_fr wo hpc.2.2.2.1 hpc.2.2.2.2.1 hm1 f (by decide) (by decide) hm0
  have hp0 := PR_same (EQC_fr f hpc (by decide)) (EQM_fr f kv2 hpm (by decide)) hp0
  have hk2 : KP2 Z I uS u62 (I v2 0).toInt.toNat := by rw [(f.2.2.1 v2 12 0 kv2 (by decide) (by decide))]; exact KP2_fr f wo.1 kuS luS kv2 hru62 ku62 (by decide) (by decide) (by decide) hk2
  have hs0 := ARr_same (f.2.2.2 uF 8 1 uX kuF hruX (by rw [kuX.2]; rfl) rfl (by decide)) (f.2.2.2 v2 12 2 uY kv2 hruY (by rw [kuY.2]; rfl) rfl (by decide)) (congrArg Int32.toInt (f.2.2.1 v2 12 0 kv2 (by decide) (by decide))) hs0
  have hc0 := KC_fr f wo.1 kuS luS kv2 hru62 ku62 (by decide) (by decide) (by decide) (congrArg Int32.toInt (f.2.2.1 v2 12 0 kv2 (by decide) (by decide))) hc0
  have hs9 := ARr_same (f.2.2.2 uF 8 0 uR kuF hruR (by rw [kuR.2]; rfl) rfl (by decide)) (f.2.2.2 v2 12 1 vR kv2 hrvR (by rw [kvR.2]; rfl) rfl (by decide)) (congrArg Int32.toInt (f.2.2.1 v2 12 0 kv2 (by decide) (by decide))) hs9
  have hv0 := PRr_fr f kv1 kuA (eMf f kv2 hruV kuV rfl (by decide)) (by decide) (by decide) hv0
  have hk := HK_fr f kuS kv2 hruK kuK hruC kuC (by decide) (by decide) (by decide) (by decide) hk
  have hx := TBr_fr f kuT hruB kuB kv2 hruM kuM (by decide) (by decide) (by decide) (by decide) hx
  have ea171 := congrArg Int32.toInt (f.2.2.1 uF 8 9 kuF (by decide) (by decide))
  have ea172 := congrArg Int32.toInt (f.2.2.1 v2 12 0 kv2 (by decide) (by decide))
  have ea173 := congrArg Int32.toInt (f.2.2.1 v2 12 7 kv2 (by decide) (by decide))
  have ea174 := congrArg Int32.toInt (f.2.2.1 v1 11 4 kv1 (by decide) (by decide))
  have ea175 := congrArg Int32.toInt (f.2.2.1 v2 12 8 kv2 (by decide) (by decide))
  have hm1 := (f.2.1 uP 4 1 hpc.2.2.2.1 (by decide) (by decide)).trans hm1
  have hpc := PCs_x f.1 (fun a c j ka hc => f.2.1 a c j ka (by omega) (by omega)) kv1 hpc
  have hpm := PMs_x f.1 (fun j hj => f.2.1 v2 12 j kv2 (by omega) (by omega)) hpm
  have hru62 := (f.2.1 v2 12 62 kv2 (by decide) (by decide)).trans hru62
  have ku62 := (f.1 _ _ ku62).1
  have hruX := (f.2.1 uF 8 1 kuF (by decide) (by decide)).trans hruX
  have kuX := (f.1 _ _ kuX).1
  have hruY := (f.2.1 v2 12 2 kv2 (by decide) (by decide)).trans hruY
  have kuY := (f.1 _ _ kuY).1
  have hruR := (f.2.1 uF 8 0 kuF (by decide) (by decide)).trans hruR
  have kuR := (f.1 _ _ kuR).1
  have hrvR := (f.2.1 v2 12 1 kv2 (by decide) (by decide)).trans hrvR
  have kvR := (f.1 _ _ kvR).1
  have hruA := (f.2.1 v1 11 3 kv1 (by decide) (by decide)).trans hruA
  have kuA := (f.1 _ _ kuA).1
  have hruV := (f.2.1 v2 12 13 kv2 (by decide) (by decide)).trans hruV
  have kuV := (f.1 _ _ kuV).1
  have hruS := (f.2.1 v1 11 8 kv1 (by decide) (by decide)).trans hruS
  have luS := (f.1 _ _ kuS).2.trans luS
  have kuS := (f.1 _ _ kuS).1
  have hruK := (f.2.1 v2 12 63 kv2 (by decide) (by decide)).trans hruK
  have kuK := (f.1 _ _ kuK).1
  have hruC := (f.2.1 v2 12 64 kv2 (by decide) (by decide)).trans hruC
  have kuC := (f.1 _ _ kuC).1
  have hruB := (f.2.1 uT 10 0 kuT (by decide) (by decide)).trans hruB
  have hruM := (f.2.1 v2 12 18 kv2 (by decide) (by decide)).trans hruM
  have kuB := (f.1 _ _ kuB).1
  have kuM := (f.1 _ _ kuM).1
  have hruT := (f.2.1 v1 11 0 kv1 (by decide) (by decide)).trans hruT
  have kuT := (f.1 _ _ kuT).1
  have hruF := (f.2.1 v1 11 2 kv1 (by decide) (by decide)).trans hruF
  have kuF := (f.1 _ _ kuF).1
  have hl : jlen Z v3 = 1 := (f.1 _ _ kv3).2.trans hl
  have kv1 := (f.1 _ _ kv1).1
  have kv2 := (f.1 _ _ kv2).1
  have kv3 := (f.1 _ _ kv3).1
  unfold f_L_law_b1760
  intro x ex
  have tx : x.toInt = v4.toInt + 6 := by rw [ex]; exact i_add rfl (show (6 : Int32).toInt = 6 from rfl) (by omega) (by omega)
  exact hK _ _ _ x ex (LInv_mk (Z := Z) (I := I) T uT uB uM uF uS uK uC uA uV uX uY uR vR uP x0 x2 u5 u53 u54 u62 x1 uQ vQ uW vW t30 t29 u5c t6 t9 t10 t11 t12 ⟨w, bd, kv1, kv2, kv3, hl, ht, hruT, kuT, hruB, kuB, hruM⟩ ⟨kuM, hx, hruF, kuF, (by omega), (by omega), (by omega), hruS, kuS, luS, hruK, kuK⟩ ⟨hruC, kuC, hk, hruA, kuA, hruV, kuV, hv0, hruX, kuX, hruY, kuY⟩ ⟨hruR, kuR, hrvR, kvR, hs0, hc0, hs9, hpc, hpm, hru62, ku62, hp0⟩ ⟨hk2, hm1, hm0, hak, ha0, hwi, hlb, hfb, hpb, hsh⟩)
set_option maxHeartbeats 4000000 in
set_option maxRecDepth 100000 in
theorem k_b949 {xs : Nat → Int32} {Ls : Nat} {B : Nat × Nat} {K : Nat → Nat → Nat → Int32 → jZ → jI → jL → Prop} {v1 v2 v3 : Nat} {v4 : Int32} {Z : jZ} {I : jI} {L : jL} {T uT uB uM uF uS uK uC uA uV uX uY uR vR uP x0 x2 u5 u53 u54 u62 x1 uQ vQ uW vW t30 t29 u5c t6 t9 t10 t11 t12 : Nat} (g0 : LG0 B v1 v2 v3 T uT uB uM Z I) (g1 : LG1 v1 v2 v4 uT uB uM uF uS uK Z I) (g2 : LG2 v1 v2 uF uS uK uC uA uV uX uY Z I) (g3 : LG3 v1 v2 uF uS uX uY uR vR uP x0 x2 u5 u53 u54 u62 Z I) (g4 : LG4 v1 v2 uF uS uA uP x0 u62 x1 uQ vQ uW vW t30 t29 u5c t6 t9 t10 t11 t12 Z I) (hv : 0 ≤ v4.toInt ∧ v4.toInt + 6 ≤ (Ls : Int) ∧ (Ls : Int) ≤ 3072) (hK : ∀ (Z : jZ) (I : jI) (L : jL) (x : Int32), x = v4 + 6 → LInv B v1 v2 v3 x Z I → K v1 v2 v3 x Z I L) : f_L_law_b949 xs Ls B K v1 v2 v3 v4 Z I L := by
  obtain ⟨w, bd, kv1, kv2, kv3, hl, ht, hruT, kuT, hruB, kuB, hruM⟩ := g0
  obtain ⟨kuM, hx, hruF, kuF, hx1, hx2, hx3, hruS, kuS, luS, hruK, kuK⟩ := g1
  obtain ⟨hruC, kuC, hk, hruA, kuA, hruV, kuV, hv0, hruX, kuX, hruY, kuY⟩ := g2
  obtain ⟨hruR, kuR, hrvR, kvR, hs0, hc0, hs9, hpc, hpm, hru62, ku62, hp0⟩ := g3
  obtain ⟨hk2, hm1, hm0, hak, ha0, hwi, hlb, hfb, hpb, hsh⟩ := g4
  unfold f_L_law_b949
  refine ⟨vi_of (i_add rfl (show (1 : Int32).toInt = 1 from rfl) (by omega) (by omega)) (by omega) (by omega), ?_⟩
  refine ⟨vi_of (i_add rfl (show (2 : Int32).toInt = 2 from rfl) (by omega) (by omega)) (by omega) (by omega), ?_⟩
  have wo := w
  refine s_X11_ways w bd v1 _ _ kv1  (fun r1 Z I L w bd f cp => ?_)
  have ht : (I v1 4).toInt + (T : Int) = 6 := by rw [f.2.2.1 v1 11 4 kv1 (by decide) (by decide)]; exact ht
  have ha0 := ARr_same (f.2.2.2 uF 8 2 uQ kuF hak.1 (by rw [hak.2.1.2]; rfl) rfl (by decide)) (f.2.2.2 v2 12 3 vQ kv2 hak.2.2.1 (by rw [hak.2.2.2.1.2]; rfl) rfl (by decide)) (congrArg Int32.toInt (f.2.2.1 v2 12 0 kv2 (by decide) (by decide))) ha0
  have hwi := WI_fr f kuF kv2 (by decide) hwi
  have hlb := LB_fr f wo kuF kv2 (by decide) hlb
  have hfb := FB_fr f kuF kv2 (by decide) hfb
  have hpb := PB_fr f kv1 kuA kv2 (by decide) hpb
  have hsh : (I v2 39).toInt = -1 := by rw [f.2.2.1 v2 12 39 kv2 (by decide) (by decide)]; exact hsh
  have hak := AK_fr f wo kuF kv2 kuS luS hru62 ku62 (by decide) hak
  have hm0 := MAI_fr wo hpc.2.2.2.1 hpc.2.2.2.2.1 hm1 f (by decide) (by decide) hm0
  have hp0 := PR_same (EQC_fr f hpc (by decide)) (EQM_fr f kv2 hpm (by decide)) hp0
  have hk2 : KP2 Z I uS u62 (I v2 0).toInt.toNat := by rw [(f.2.2.1 v2 12 0 kv2 (by decide) (by decide))]; exact KP2_fr f wo.1 kuS luS kv2 hru62 ku62 (by decide) (by decide) (by decide) hk2
  have hs0 := ARr_same (f.2.2.2 uF 8 1 uX kuF hruX (by rw [kuX.2]; rfl) rfl (by decide)) (f.2.2.2 v2 12 2 uY kv2 hruY (by rw [kuY.2]; rfl) rfl (by decide)) (congrArg Int32.toInt (f.2.2.1 v2 12 0 kv2 (by decide) (by decide))) hs0
  have hc0 := KC_fr f wo.1 kuS luS kv2 hru62 ku62 (by decide) (by decide) (by decide) (congrArg Int32.toInt (f.2.2.1 v2 12 0 kv2 (by decide) (by decide))) hc0
  have hs9 := ARr_same (f.2.2.2 uF 8 0 uR kuF hruR (by rw [kuR.2]; rfl) rfl (by decide)) (f.2.2.2 v2 12 1 vR kv2 hrvR (by rw [kvR.2]; rfl) rfl (by decide)) (congrArg Int32.toInt (f.2.2.1 v2 12 0 kv2 (by decide) (by decide))) hs9
  have hv0 := PRr_fr f kv1 kuA (eMf f kv2 hruV kuV rfl (by decide)) (by decide) (by decide) hv0
  have hk := HK_fr f kuS kv2 hruK kuK hruC kuC (by decide) (by decide) (by decide) (by decide) hk
  have hx := TBr_fr f kuT hruB kuB kv2 hruM kuM (by decide) (by decide) (by decide) (by decide) hx
  have ea176 := congrArg Int32.toInt (f.2.2.1 uF 8 9 kuF (by decide) (by decide))
  have ea177 := congrArg Int32.toInt (f.2.2.1 v2 12 0 kv2 (by decide) (by decide))
  have ea178 := congrArg Int32.toInt (f.2.2.1 v2 12 7 kv2 (by decide) (by decide))
  have ea179 := congrArg Int32.toInt (f.2.2.1 v1 11 4 kv1 (by decide) (by decide))
  have ea180 := congrArg Int32.toInt (f.2.2.1 v2 12 8 kv2 (by decide) (by decide))
  have hm1 := (f.2.1 uP 4 1 hpc.2.2.2.1 (by decide) (by decide)).trans hm1
  have hpc := PCs_x f.1 (fun a c j ka hc => f.2.1 a c j ka (by omega) (by omega)) kv1 hpc
  have hpm := PMs_x f.1 (fun j hj => f.2.1 v2 12 j kv2 (by omega) (by omega)) hpm
  have hru62 := (f.2.1 v2 12 62 kv2 (by decide) (by decide)).trans hru62
  have ku62 := (f.1 _ _ ku62).1
  have hruX := (f.2.1 uF 8 1 kuF (by decide) (by decide)).trans hruX
  have kuX := (f.1 _ _ kuX).1
  have hruY := (f.2.1 v2 12 2 kv2 (by decide) (by decide)).trans hruY
  have kuY := (f.1 _ _ kuY).1
  have hruR := (f.2.1 uF 8 0 kuF (by decide) (by decide)).trans hruR
  have kuR := (f.1 _ _ kuR).1
  have hrvR := (f.2.1 v2 12 1 kv2 (by decide) (by decide)).trans hrvR
  have kvR := (f.1 _ _ kvR).1
  have hruA := (f.2.1 v1 11 3 kv1 (by decide) (by decide)).trans hruA
  have kuA := (f.1 _ _ kuA).1
  have hruV := (f.2.1 v2 12 13 kv2 (by decide) (by decide)).trans hruV
  have kuV := (f.1 _ _ kuV).1
  have hruS := (f.2.1 v1 11 8 kv1 (by decide) (by decide)).trans hruS
  have luS := (f.1 _ _ kuS).2.trans luS
  have kuS := (f.1 _ _ kuS).1
  have hruK := (f.2.1 v2 12 63 kv2 (by decide) (by decide)).trans hruK
  have kuK := (f.1 _ _ kuK).1
  have hruC := (f.2.1 v2 12 64 kv2 (by decide) (by decide)).trans hruC
  have kuC := (f.1 _ _ kuC).1
  have hruB := (f.2.1 uT 10 0 kuT (by decide) (by decide)).trans hruB
  have hruM := (f.2.1 v2 12 18 kv2 (by decide) (by decide)).trans hruM
  have kuB := (f.1 _ _ kuB).1
  have kuM := (f.1 _ _ kuM).1
  have hruT := (f.2.1 v1 11 0 kv1 (by decide) (by decide)).trans hruT
  have kuT := (f.1 _ _ kuT).1
  have hruF := (f.2.1 v1 11 2 kv1 (by decide) (by decide)).trans hruF
  have kuF := (f.1 _ _ kuF).1
  have hl : jlen Z v3 = 1 := (f.1 _ _ kv3).2.trans hl
  have kv1 := (f.1 _ _ kv1).1
  have kv2 := (f.1 _ _ kv2).1
  have kv3 := (f.1 _ _ kv3).1
  refine ⟨vi_of (i_add rfl (show (1 : Int32).toInt = 1 from rfl) (by omega) (by omega)) (by omega) (by omega), ?_⟩
  refine ⟨vi_of (i_add rfl (show (2 : Int32).toInt = 2 from rfl) (by omega) (by omega)) (by omega) (by omega), ?_⟩
  have wo := w
  refine s_X12_ways w bd v2 _ _ kv2  (fun r2 Z I L w bd f cp => ?_)
  have ht : (I v1 4).toInt + (T : Int) = 6 := by rw [f.2.2.1 v1 11 4 kv1 (by decide) (by decide)]; exact ht
  have ha0 := ARr_same (f.2.2.2 uF 8 2 uQ kuF hak.1 (by rw [hak.2.1.2]; rfl) rfl (by decide)) (f.2.2.2 v2 12 3 vQ kv2 hak.2.2.1 (by rw [hak.2.2.2.1.2]; rfl) rfl (by decide)) (congrArg Int32.toInt (f.2.2.1 v2 12 0 kv2 (by decide) (by decide))) ha0
  have hwi := WI_fr f kuF kv2 (by decide) hwi
  have hlb := LB_fr f wo kuF kv2 (by decide) hlb
  have hfb := FB_fr f kuF kv2 (by decide) hfb
  have hpb := PB_fr f kv1 kuA kv2 (by decide) hpb
  have hsh : (I v2 39).toInt = -1 := by rw [f.2.2.1 v2 12 39 kv2 (by decide) (by decide)]; exact hsh
  have hak := AK_fr f wo kuF kv2 kuS luS hru62 ku62 (by decide) hak
  have hm0 := MAI_fr wo hpc.2.2.2.1 hpc.2.2.2.2.1 hm1 f (by decide) (by decide) hm0
  have hp0 := PR_same (EQC_fr f hpc (by decide)) (EQM_fr f kv2 hpm (by decide)) hp0
  have hk2 : KP2 Z I uS u62 (I v2 0).toInt.toNat := by rw [(f.2.2.1 v2 12 0 kv2 (by decide) (by decide))]; exact KP2_fr f wo.1 kuS luS kv2 hru62 ku62 (by decide) (by decide) (by decide) hk2
  have hs0 := ARr_same (f.2.2.2 uF 8 1 uX kuF hruX (by rw [kuX.2]; rfl) rfl (by decide)) (f.2.2.2 v2 12 2 uY kv2 hruY (by rw [kuY.2]; rfl) rfl (by decide)) (congrArg Int32.toInt (f.2.2.1 v2 12 0 kv2 (by decide) (by decide))) hs0
  have hc0 := KC_fr f wo.1 kuS luS kv2 hru62 ku62 (by decide) (by decide) (by decide) (congrArg Int32.toInt (f.2.2.1 v2 12 0 kv2 (by decide) (by decide))) hc0
  have hs9 := ARr_same (f.2.2.2 uF 8 0 uR kuF hruR (by rw [kuR.2]; rfl) rfl (by decide)) (f.2.2.2 v2 12 1 vR kv2 hrvR (by rw [kvR.2]; rfl) rfl (by decide)) (congrArg Int32.toInt (f.2.2.1 v2 12 0 kv2 (by decide) (by decide))) hs9
  have hv0 := PRr_fr f kv1 kuA (eMf f kv2 hruV kuV rfl (by decide)) (by decide) (by decide) hv0
  have hk := HK_fr f kuS kv2 hruK kuK hruC kuC (by decide) (by decide) (by decide) (by decide) hk
  have hx := TBr_fr f kuT hruB kuB kv2 hruM kuM (by decide) (by decide) (by decide) (by decide) hx
  have ea181 := congrArg Int32.toInt (f.2.2.1 uF 8 9 kuF (by decide) (by decide))
  have ea182 := congrArg Int32.toInt (f.2.2.1 v2 12 0 kv2 (by decide) (by decide))
  have ea183 := congrArg Int32.toInt (f.2.2.1 v2 12 7 kv2 (by decide) (by decide))
  have ea184 := congrArg Int32.toInt (f.2.2.1 v1 11 4 kv1 (by decide) (by decide))
  have ea185 := congrArg Int32.toInt (f.2.2.1 v2 12 8 kv2 (by decide) (by decide))
  have hm1 := (f.2.1 uP 4 1 hpc.2.2.2.1 (by decide) (by decide)).trans hm1
  have hpc := PCs_x f.1 (fun a c j ka hc => f.2.1 a c j ka (by omega) (by omega)) kv1 hpc
  have hpm := PMs_x f.1 (fun j hj => f.2.1 v2 12 j kv2 (by omega) (by omega)) hpm
  have hru62 := (f.2.1 v2 12 62 kv2 (by decide) (by decide)).trans hru62
  have ku62 := (f.1 _ _ ku62).1
  have hruX := (f.2.1 uF 8 1 kuF (by decide) (by decide)).trans hruX
  have kuX := (f.1 _ _ kuX).1
  have hruY := (f.2.1 v2 12 2 kv2 (by decide) (by decide)).trans hruY
  have kuY := (f.1 _ _ kuY).1
  have hruR := (f.2.1 uF 8 0 kuF (by decide) (by decide)).trans hruR
  have kuR := (f.1 _ _ kuR).1
  have hrvR := (f.2.1 v2 12 1 kv2 (by decide) (by decide)).trans hrvR
  have kvR := (f.1 _ _ kvR).1
  have hruA := (f.2.1 v1 11 3 kv1 (by decide) (by decide)).trans hruA
  have kuA := (f.1 _ _ kuA).1
  have hruV := (f.2.1 v2 12 13 kv2 (by decide) (by decide)).trans hruV
  have kuV := (f.1 _ _ kuV).1
  have hruS := (f.2.1 v1 11 8 kv1 (by decide) (by decide)).trans hruS
  have luS := (f.1 _ _ kuS).2.trans luS
  have kuS := (f.1 _ _ kuS).1
  have hruK := (f.2.1 v2 12 63 kv2 (by decide) (by decide)).trans hruK
  have kuK := (f.1 _ _ kuK).1
  have hruC := (f.2.1 v2 12 64 kv2 (by decide) (by decide)).trans hruC
  have kuC := (f.1 _ _ kuC).1
  have hruB := (f.2.1 uT 10 0 kuT (by decide) (by decide)).trans hruB
  have hruM := (f.2.1 v2 12 18 kv2 (by decide) (by decide)).trans hruM
  have kuB := (f.1 _ _ kuB).1
  have kuM := (f.1 _ _ kuM).1
  have hruT := (f.2.1 v1 11 0 kv1 (by decide) (by decide)).trans hruT
  have kuT := (f.1 _ _ kuT).1
  have hruF := (f.2.1 v1 11 2 kv1 (by decide) (by decide)).trans hruF
  have kuF := (f.1 _ _ kuF).1
  have hl : jlen Z v3 = 1 := (f.1 _ _ kv3).2.trans hl
  have kv1 := (f.1 _ _ kv1).1
  have kv2 := (f.1 _ _ kv2).1
  have kv3 := (f.1 _ _ kv3).1
  unfold f_L_law_b1760
  intro x ex
  have tx : x.toInt = v4.toInt + 6 := by rw [ex]; exact i_add rfl (show (6 : Int32).toInt = 6 from rfl) (by omega) (by omega)
  exact hK _ _ _ x ex (LInv_mk (Z := Z) (I := I) T uT uB uM uF uS uK uC uA uV uX uY uR vR uP x0 x2 u5 u53 u54 u62 x1 uQ vQ uW vW t30 t29 u5c t6 t9 t10 t11 t12 ⟨w, bd, kv1, kv2, kv3, hl, ht, hruT, kuT, hruB, kuB, hruM⟩ ⟨kuM, hx, hruF, kuF, (by omega), (by omega), (by omega), hruS, kuS, luS, hruK, kuK⟩ ⟨hruC, kuC, hk, hruA, kuA, hruV, kuV, hv0, hruX, kuX, hruY, kuY⟩ ⟨hruR, kuR, hrvR, kvR, hs0, hc0, hs9, hpc, hpm, hru62, ku62, hp0⟩ ⟨hk2, hm1, hm0, hak, ha0, hwi, hlb, hfb, hpb, hsh⟩)
set_option maxHeartbeats 4000000 in
set_option maxRecDepth 100000 in
theorem k_b986 {xs : Nat → Int32} {Ls : Nat} {B : Nat × Nat} {K : Nat → Nat → Nat → Int32 → jZ → jI → jL → Prop} {v1 v2 v3 : Nat} {v4 : Int32} {Z : jZ} {I : jI} {L : jL} {T uT uB uM uF uS uK uC uA uV uX uY uR vR uP x0 x2 u5 u53 u54 u62 x1 uQ vQ uW vW t30 t29 u5c t6 t9 t10 t11 t12 : Nat} (g0 : LG0 B v1 v2 v3 T uT uB uM Z I) (g1 : LG1 v1 v2 v4 uT uB uM uF uS uK Z I) (g2 : LG2 v1 v2 uF uS uK uC uA uV uX uY Z I) (g3 : LG3 v1 v2 uF uS uX uY uR vR uP x0 x2 u5 u53 u54 u62 Z I) (g4 : LG4 v1 v2 uF uS uA uP x0 u62 x1 uQ vQ uW vW t30 t29 u5c t6 t9 t10 t11 t12 Z I) (hv : 0 ≤ v4.toInt ∧ v4.toInt + 6 ≤ (Ls : Int) ∧ (Ls : Int) ≤ 3072) (hK : ∀ (Z : jZ) (I : jI) (L : jL) (x : Int32), x = v4 + 6 → LInv B v1 v2 v3 x Z I → K v1 v2 v3 x Z I L) : f_L_law_b986 xs Ls B K v1 v2 v3 v4 Z I L := by
  obtain ⟨w, bd, kv1, kv2, kv3, hl, ht, hruT, kuT, hruB, kuB, hruM⟩ := g0
  obtain ⟨kuM, hx, hruF, kuF, hx1, hx2, hx3, hruS, kuS, luS, hruK, kuK⟩ := g1
  obtain ⟨hruC, kuC, hk, hruA, kuA, hruV, kuV, hv0, hruX, kuX, hruY, kuY⟩ := g2
  obtain ⟨hruR, kuR, hrvR, kvR, hs0, hc0, hs9, hpc, hpm, hru62, ku62, hp0⟩ := g3
  obtain ⟨hk2, hm1, hm0, hak, ha0, hwi, hlb, hfb, hpb, hsh⟩ := g4
  unfold f_L_law_b986
  refine ⟨vi_of (i_add rfl (show (1 : Int32).toInt = 1 from rfl) (by omega) (by omega)) (by omega) (by omega), ?_⟩
  refine ⟨vi_of (i_add rfl (show (2 : Int32).toInt = 2 from rfl) (by omega) (by omega)) (by omega) (by omega), ?_⟩
  refine ⟨vi_of (i_add rfl (show (3 : Int32).toInt = 3 from rfl) (by omega) (by omega)) (by omega) (by omega), ?_⟩
  have wo := w
  refine s_X11_trod w bd v1 _ _ _ kv1  (fun r1 Z I L w bd f cp => ?_)
  have ht : (I v1 4).toInt + (T : Int) = 6 := by rw [f.2.2.1 v1 11 4 kv1 (by decide) (by decide)]; exact ht
  have ha0 := ARr_same (f.2.2.2 uF 8 2 uQ kuF hak.1 (by rw [hak.2.1.2]; rfl) rfl (by decide)) (f.2.2.2 v2 12 3 vQ kv2 hak.2.2.1 (by rw [hak.2.2.2.1.2]; rfl) rfl (by decide)) (congrArg Int32.toInt (f.2.2.1 v2 12 0 kv2 (by decide) (by decide))) ha0
  have hwi := WI_fr f kuF kv2 (by decide) hwi
  have hlb := LB_fr f wo kuF kv2 (by decide) hlb
  have hfb := FB_fr f kuF kv2 (by decide) hfb
  have hpb := PB_fr f kv1 kuA kv2 (by decide) hpb
  have hsh : (I v2 39).toInt = -1 := by rw [f.2.2.1 v2 12 39 kv2 (by decide) (by decide)]; exact hsh
  have hak := AK_fr f wo kuF kv2 kuS luS hru62 ku62 (by decide) hak
  have hm0 := MAI_fr wo hpc.2.2.2.1 hpc.2.2.2.2.1 hm1 f (by decide) (by decide) hm0
  have hp0 := PR_same (EQC_fr f hpc (by decide)) (EQM_fr f kv2 hpm (by decide)) hp0
  have hk2 : KP2 Z I uS u62 (I v2 0).toInt.toNat := by rw [(f.2.2.1 v2 12 0 kv2 (by decide) (by decide))]; exact KP2_fr f wo.1 kuS luS kv2 hru62 ku62 (by decide) (by decide) (by decide) hk2
  have hs0 := ARr_same (f.2.2.2 uF 8 1 uX kuF hruX (by rw [kuX.2]; rfl) rfl (by decide)) (f.2.2.2 v2 12 2 uY kv2 hruY (by rw [kuY.2]; rfl) rfl (by decide)) (congrArg Int32.toInt (f.2.2.1 v2 12 0 kv2 (by decide) (by decide))) hs0
  have hc0 := KC_fr f wo.1 kuS luS kv2 hru62 ku62 (by decide) (by decide) (by decide) (congrArg Int32.toInt (f.2.2.1 v2 12 0 kv2 (by decide) (by decide))) hc0
  have hs9 := ARr_same (f.2.2.2 uF 8 0 uR kuF hruR (by rw [kuR.2]; rfl) rfl (by decide)) (f.2.2.2 v2 12 1 vR kv2 hrvR (by rw [kvR.2]; rfl) rfl (by decide)) (congrArg Int32.toInt (f.2.2.1 v2 12 0 kv2 (by decide) (by decide))) hs9
  have hv0 := PRr_fr f kv1 kuA (eMf f kv2 hruV kuV rfl (by decide)) (by decide) (by decide) hv0
  have hk := HK_fr f kuS kv2 hruK kuK hruC kuC (by decide) (by decide) (by decide) (by decide) hk
  have hx := TBr_fr f kuT hruB kuB kv2 hruM kuM (by decide) (by decide) (by decide) (by decide) hx
  have ea186 := congrArg Int32.toInt (f.2.2.1 uF 8 9 kuF (by decide) (by decide))
  have ea187 := congrArg Int32.toInt (f.2.2.1 v2 12 0 kv2 (by decide) (by decide))
  have ea188 := congrArg Int32.toInt (f.2.2.1 v2 12 7 kv2 (by decide) (by decide))
  have ea189 := congrArg Int32.toInt (f.2.2.1 v1 11 4 kv1 (by decide) (by decide))
  have ea190 := congrArg Int32.toInt (f.2.2.1 v2 12 8 kv2 (by decide) (by decide))
  have hm1 := (f.2.1 uP 4 1 hpc.2.2.2.1 (by decide) (by decide)).trans hm1
  have hpc := PCs_x f.1 (fun a c j ka hc => f.2.1 a c j ka (by omega) (by omega)) kv1 hpc
  have hpm := PMs_x f.1 (fun j hj => f.2.1 v2 12 j kv2 (by omega) (by omega)) hpm
  have hru62 := (f.2.1 v2 12 62 kv2 (by decide) (by decide)).trans hru62
  have ku62 := (f.1 _ _ ku62).1
  have hruX := (f.2.1 uF 8 1 kuF (by decide) (by decide)).trans hruX
  have kuX := (f.1 _ _ kuX).1
  have hruY := (f.2.1 v2 12 2 kv2 (by decide) (by decide)).trans hruY
  have kuY := (f.1 _ _ kuY).1
  have hruR := (f.2.1 uF 8 0 kuF (by decide) (by decide)).trans hruR
  have kuR := (f.1 _ _ kuR).1
  have hrvR := (f.2.1 v2 12 1 kv2 (by decide) (by decide)).trans hrvR
  have kvR := (f.1 _ _ kvR).1
  have hruA := (f.2.1 v1 11 3 kv1 (by decide) (by decide)).trans hruA
  have kuA := (f.1 _ _ kuA).1
  have hruV := (f.2.1 v2 12 13 kv2 (by decide) (by decide)).trans hruV
  have kuV := (f.1 _ _ kuV).1
  have hruS := (f.2.1 v1 11 8 kv1 (by decide) (by decide)).trans hruS
  have luS := (f.1 _ _ kuS).2.trans luS
  have kuS := (f.1 _ _ kuS).1
  have hruK := (f.2.1 v2 12 63 kv2 (by decide) (by decide)).trans hruK
  have kuK := (f.1 _ _ kuK).1
  have hruC := (f.2.1 v2 12 64 kv2 (by decide) (by decide)).trans hruC
  have kuC := (f.1 _ _ kuC).1
  have hruB := (f.2.1 uT 10 0 kuT (by decide) (by decide)).trans hruB
  have hruM := (f.2.1 v2 12 18 kv2 (by decide) (by decide)).trans hruM
  have kuB := (f.1 _ _ kuB).1
  have kuM := (f.1 _ _ kuM).1
  have hruT := (f.2.1 v1 11 0 kv1 (by decide) (by decide)).trans hruT
  have kuT := (f.1 _ _ kuT).1
  have hruF := (f.2.1 v1 11 2 kv1 (by decide) (by decide)).trans hruF
  have kuF := (f.1 _ _ kuF).1
  have hl : jlen Z v3 = 1 := (f.1 _ _ kv3).2.trans hl
  have kv1 := (f.1 _ _ kv1).1
  have kv2 := (f.1 _ _ kv2).1
  have kv3 := (f.1 _ _ kv3).1
  refine ⟨vi_of (i_add rfl (show (1 : Int32).toInt = 1 from rfl) (by omega) (by omega)) (by omega) (by omega), ?_⟩
  refine ⟨vi_of (i_add rfl (show (2 : Int32).toInt = 2 from rfl) (by omega) (by omega)) (by omega) (by omega), ?_⟩
  refine ⟨vi_of (i_add rfl (show (3 : Int32).toInt = 3 from rfl) (by omega) (by omega)) (by omega) (by omega), ?_⟩
  have wo := w
  refine s21_X12_trod w bd v2 _ _ _ kv2 hsh  (fun r2 Z I L w bd f cp p2 => ?_)
  have ht : (I v1 4).toInt + (T : Int) = 6 := by rw [f.2.2.1 v1 11 4 kv1 (by decide) (by decide)]; exact ht
  have ha0 := ARr_same (f.2.2.2 uF 8 2 uQ kuF hak.1 (by rw [hak.2.1.2]; rfl) rfl (by decide)) (f.2.2.2 v2 12 3 vQ kv2 hak.2.2.1 (by rw [hak.2.2.2.1.2]; rfl) rfl (by decide)) (congrArg Int32.toInt (f.2.2.1 v2 12 0 kv2 (by decide) (by decide))) ha0
  have hwi := WI_fr f kuF kv2 (by decide) hwi
  have hlb := LB_fr f wo kuF kv2 (by decide) hlb
  have hfb := FB_fr f kuF kv2 (by decide) hfb
  have hpb := PB_fr f kv1 kuA kv2 (by decide) hpb
  have hsh : (I v2 39).toInt = -1 := p2
  have hak := AK_fr f wo kuF kv2 kuS luS hru62 ku62 (by decide) hak
  have hm0 := MAI_fr wo hpc.2.2.2.1 hpc.2.2.2.2.1 hm1 f (by decide) (by decide) hm0
  have hp0 := PR_same (EQC_fr f hpc (by decide)) (EQM_fr f kv2 hpm (by decide)) hp0
  have hk2 : KP2 Z I uS u62 (I v2 0).toInt.toNat := by rw [(f.2.2.1 v2 12 0 kv2 (by decide) (by decide))]; exact KP2_fr f wo.1 kuS luS kv2 hru62 ku62 (by decide) (by decide) (by decide) hk2
  have hs0 := ARr_same (f.2.2.2 uF 8 1 uX kuF hruX (by rw [kuX.2]; rfl) rfl (by decide)) (f.2.2.2 v2 12 2 uY kv2 hruY (by rw [kuY.2]; rfl) rfl (by decide)) (congrArg Int32.toInt (f.2.2.1 v2 12 0 kv2 (by decide) (by decide))) hs0
  have hc0 := KC_fr f wo.1 kuS luS kv2 hru62 ku62 (by decide) (by decide) (by decide) (congrArg Int32.toInt (f.2.2.1 v2 12 0 kv2 (by decide) (by decide))) hc0
  have hs9 := ARr_same (f.2.2.2 uF 8 0 uR kuF hruR (by rw [kuR.2]; rfl) rfl (by decide)) (f.2.2.2 v2 12 1 vR kv2 hrvR (by rw [kvR.2]; rfl) rfl (by decide)) (congrArg Int32.toInt (f.2.2.1 v2 12 0 kv2 (by decide) (by decide))) hs9
  have hv0 := PRr_fr f kv1 kuA (eMf f kv2 hruV kuV rfl (by decide)) (by decide) (by decide) hv0
  have hk := HK_fr f kuS kv2 hruK kuK hruC kuC (by decide) (by decide) (by decide) (by decide) hk
  have hx := TBr_fr f kuT hruB kuB kv2 hruM kuM (by decide) (by decide) (by decide) (by decide) hx
  have ea191 := congrArg Int32.toInt (f.2.2.1 uF 8 9 kuF (by decide) (by decide))
  have ea192 := congrArg Int32.toInt (f.2.2.1 v2 12 0 kv2 (by decide) (by decide))
  have ea193 := congrArg Int32.toInt (f.2.2.1 v2 12 7 kv2 (by decide) (by decide))
  have ea194 := congrArg Int32.toInt (f.2.2.1 v1 11 4 kv1 (by decide) (by decide))
  have ea195 := congrArg Int32.toInt (f.2.2.1 v2 12 8 kv2 (by decide) (by decide))
  have hm1 := (f.2.1 uP 4 1 hpc.2.2.2.1 (by decide) (by decide)).trans hm1
  have hpc := PCs_x f.1 (fun a c j ka hc => f.2.1 a c j ka (by omega) (by omega)) kv1 hpc
  have hpm := PMs_x f.1 (fun j hj => f.2.1 v2 12 j kv2 (by omega) (by omega)) hpm
  have hru62 := (f.2.1 v2 12 62 kv2 (by decide) (by decide)).trans hru62
  have ku62 := (f.1 _ _ ku62).1
  have hruX := (f.2.1 uF 8 1 kuF (by decide) (by decide)).trans hruX
  have kuX := (f.1 _ _ kuX).1
  have hruY := (f.2.1 v2 12 2 kv2 (by decide) (by decide)).trans hruY
  have kuY := (f.1 _ _ kuY).1
  have hruR := (f.2.1 uF 8 0 kuF (by decide) (by decide)).trans hruR
  have kuR := (f.1 _ _ kuR).1
  have hrvR := (f.2.1 v2 12 1 kv2 (by decide) (by decide)).trans hrvR
  have kvR := (f.1 _ _ kvR).1
  have hruA := (f.2.1 v1 11 3 kv1 (by decide) (by decide)).trans hruA
  have kuA := (f.1 _ _ kuA).1
  have hruV := (f.2.1 v2 12 13 kv2 (by decide) (by decide)).trans hruV
  have kuV := (f.1 _ _ kuV).1
  have hruS := (f.2.1 v1 11 8 kv1 (by decide) (by decide)).trans hruS
  have luS := (f.1 _ _ kuS).2.trans luS
  have kuS := (f.1 _ _ kuS).1
  have hruK := (f.2.1 v2 12 63 kv2 (by decide) (by decide)).trans hruK
  have kuK := (f.1 _ _ kuK).1
  have hruC := (f.2.1 v2 12 64 kv2 (by decide) (by decide)).trans hruC
  have kuC := (f.1 _ _ kuC).1
  have hruB := (f.2.1 uT 10 0 kuT (by decide) (by decide)).trans hruB
  have hruM := (f.2.1 v2 12 18 kv2 (by decide) (by decide)).trans hruM
  have kuB := (f.1 _ _ kuB).1
  have kuM := (f.1 _ _ kuM).1
  have hruT := (f.2.1 v1 11 0 kv1 (by decide) (by decide)).trans hruT
  have kuT := (f.1 _ _ kuT).1
  have hruF := (f.2.1 v1 11 2 kv1 (by decide) (by decide)).trans hruF
  have kuF := (f.1 _ _ kuF).1
  have hl : jlen Z v3 = 1 := (f.1 _ _ kv3).2.trans hl
  have kv1 := (f.1 _ _ kv1).1
  have kv2 := (f.1 _ _ kv2).1
  have kv3 := (f.1 _ _ kv3).1
  unfold f_L_law_b1760
  intro x ex
  have tx : x.toInt = v4.toInt + 6 := by rw [ex]; exact i_add rfl (show (6 : Int32).toInt = 6 from rfl) (by omega) (by omega)
  exact hK _ _ _ x ex (LInv_mk (Z := Z) (I := I) T uT uB uM uF uS uK uC uA uV uX uY uR vR uP x0 x2 u5 u53 u54 u62 x1 uQ vQ uW vW t30 t29 u5c t6 t9 t10 t11 t12 ⟨w, bd, kv1, kv2, kv3, hl, ht, hruT, kuT, hruB, kuB, hruM⟩ ⟨kuM, hx, hruF, kuF, (by omega), (by omega), (by omega), hruS, kuS, luS, hruK, kuK⟩ ⟨hruC, kuC, hk, hruA, kuA, hruV, kuV, hv0, hruX, kuX, hruY, kuY⟩ ⟨hruR, kuR, hrvR, kvR, hs0, hc0, hs9, hpc, hpm, hru62, ku62, hp0⟩ ⟨hk2, hm1, hm0, hak, ha0, hwi, hlb, hfb, hpb, hsh⟩)
set_option maxHeartbeats 4000000 in
set_option maxRecDepth 100000 in
theorem k_b1035 {xs : Nat → Int32} {Ls : Nat} {B : Nat × Nat} {K : Nat → Nat → Nat → Int32 → jZ → jI → jL → Prop} {v1 v2 v3 : Nat} {v4 : Int32} {Z : jZ} {I : jI} {L : jL} {T uT uB uM uF uS uK uC uA uV uX uY uR vR uP x0 x2 u5 u53 u54 u62 x1 uQ vQ uW vW t30 t29 u5c t6 t9 t10 t11 t12 : Nat} (g0 : LG0 B v1 v2 v3 T uT uB uM Z I) (g1 : LG1 v1 v2 v4 uT uB uM uF uS uK Z I) (g2 : LG2 v1 v2 uF uS uK uC uA uV uX uY Z I) (g3 : LG3 v1 v2 uF uS uX uY uR vR uP x0 x2 u5 u53 u54 u62 Z I) (g4 : LG4 v1 v2 uF uS uA uP x0 u62 x1 uQ vQ uW vW t30 t29 u5c t6 t9 t10 t11 t12 Z I) (hv : 0 ≤ v4.toInt ∧ v4.toInt + 6 ≤ (Ls : Int) ∧ (Ls : Int) ≤ 3072) (hK : ∀ (Z : jZ) (I : jI) (L : jL) (x : Int32), x = v4 + 6 → LInv B v1 v2 v3 x Z I → K v1 v2 v3 x Z I L) : f_L_law_b1035 xs Ls B K v1 v2 v3 v4 Z I L := by
  obtain ⟨w, bd, kv1, kv2, kv3, hl, ht, hruT, kuT, hruB, kuB, hruM⟩ := g0
  obtain ⟨kuM, hx, hruF, kuF, hx1, hx2, hx3, hruS, kuS, luS, hruK, kuK⟩ := g1
  obtain ⟨hruC, kuC, hk, hruA, kuA, hruV, kuV, hv0, hruX, kuX, hruY, kuY⟩ := g2
  obtain ⟨hruR, kuR, hrvR, kvR, hs0, hc0, hs9, hpc, hpm, hru62, ku62, hp0⟩ := g3
  obtain ⟨hk2, hm1, hm0, hak, ha0, hwi, hlb, hfb, hpb, hsh⟩ := g4
  unfold f_L_law_b1035
  refine ⟨vi_of (i_add rfl (show (1 : Int32).toInt = 1 from rfl) (by omega) (by omega)) (by omega) (by omega), ?_⟩
  refine ⟨vi_of (i_add rfl (show (2 : Int32).toInt = 2 from rfl) (by omega) (by omega)) (by omega) (by omega), ?_⟩
  have wo := w
  refine s_X11_who w bd v1 _ _ kv1  (fun r1 Z I L w bd f cp => ?_)
  have ht : (I v1 4).toInt + (T : Int) = 6 := by rw [f.2.2.1 v1 11 4 kv1 (by decide) (by decide)]; exact ht
  have ha0 := ARr_same (f.2.2.2 uF 8 2 uQ kuF hak.1 (by rw [hak.2.1.2]; rfl) rfl (by decide)) (f.2.2.2 v2 12 3 vQ kv2 hak.2.2.1 (by rw [hak.2.2.2.1.2]; rfl) rfl (by decide)) (congrArg Int32.toInt (f.2.2.1 v2 12 0 kv2 (by decide) (by decide))) ha0
  have hwi := WI_fr f kuF kv2 (by decide) hwi
  have hlb := LB_fr f wo kuF kv2 (by decide) hlb
  have hfb := FB_fr f kuF kv2 (by decide) hfb
  have hpb := PB_fr f kv1 kuA kv2 (by decide) hpb
  have hsh : (I v2 39).toInt = -1 := by rw [f.2.2.1 v2 12 39 kv2 (by decide) (by decide)]; exact hsh
  have hak := AK_fr f wo kuF kv2 kuS luS hru62 ku62 (by decide) hak
  have hm0 := MAI_fr wo hpc.2.2.2.1 hpc.2.2.2.2.1 hm1 f (by decide) (by decide) hm0
  have hp0 := PR_same (EQC_fr f hpc (by decide)) (EQM_fr f kv2 hpm (by decide)) hp0
  have hk2 : KP2 Z I uS u62 (I v2 0).toInt.toNat := by rw [(f.2.2.1 v2 12 0 kv2 (by decide) (by decide))]; exact KP2_fr f wo.1 kuS luS kv2 hru62 ku62 (by decide) (by decide) (by decide) hk2
  have hs0 := ARr_same (f.2.2.2 uF 8 1 uX kuF hruX (by rw [kuX.2]; rfl) rfl (by decide)) (f.2.2.2 v2 12 2 uY kv2 hruY (by rw [kuY.2]; rfl) rfl (by decide)) (congrArg Int32.toInt (f.2.2.1 v2 12 0 kv2 (by decide) (by decide))) hs0
  have hc0 := KC_fr f wo.1 kuS luS kv2 hru62 ku62 (by decide) (by decide) (by decide) (congrArg Int32.toInt (f.2.2.1 v2 12 0 kv2 (by decide) (by decide))) hc0
  have hs9 := ARr_same (f.2.2.2 uF 8 0 uR kuF hruR (by rw [kuR.2]; rfl) rfl (by decide)) (f.2.2.2 v2 12 1 vR kv2 hrvR (by rw [kvR.2]; rfl) rfl (by decide)) (congrArg Int32.toInt (f.2.2.1 v2 12 0 kv2 (by decide) (by decide))) hs9
  have hv0 := PRr_fr f kv1 kuA (eMf f kv2 hruV kuV rfl (by decide)) (by decide) (by decide) hv0
  have hk := HK_fr f kuS kv2 hruK kuK hruC kuC (by decide) (by decide) (by decide) (by decide) hk
  have hx := TBr_fr f kuT hruB kuB kv2 hruM kuM (by decide) (by decide) (by decide) (by decide) hx
  have ea196 := congrArg Int32.toInt (f.2.2.1 uF 8 9 kuF (by decide) (by decide))
  have ea197 := congrArg Int32.toInt (f.2.2.1 v2 12 0 kv2 (by decide) (by decide))
  have ea198 := congrArg Int32.toInt (f.2.2.1 v2 12 7 kv2 (by decide) (by decide))
  have ea199 := congrArg Int32.toInt (f.2.2.1 v1 11 4 kv1 (by decide) (by decide))
  have ea200 := congrArg Int32.toInt (f.2.2.1 v2 12 8 kv2 (by decide) (by decide))
  have hm1 := (f.2.1 uP 4 1 hpc.2.2.2.1 (by decide) (by decide)).trans hm1
  have hpc := PCs_x f.1 (fun a c j ka hc => f.2.1 a c j ka (by omega) (by omega)) kv1 hpc
  have hpm := PMs_x f.1 (fun j hj => f.2.1 v2 12 j kv2 (by omega) (by omega)) hpm
  have hru62 := (f.2.1 v2 12 62 kv2 (by decide) (by decide)).trans hru62
  have ku62 := (f.1 _ _ ku62).1
  have hruX := (f.2.1 uF 8 1 kuF (by decide) (by decide)).trans hruX
  have kuX := (f.1 _ _ kuX).1
  have hruY := (f.2.1 v2 12 2 kv2 (by decide) (by decide)).trans hruY
  have kuY := (f.1 _ _ kuY).1
  have hruR := (f.2.1 uF 8 0 kuF (by decide) (by decide)).trans hruR
  have kuR := (f.1 _ _ kuR).1
  have hrvR := (f.2.1 v2 12 1 kv2 (by decide) (by decide)).trans hrvR
  have kvR := (f.1 _ _ kvR).1
  have hruA := (f.2.1 v1 11 3 kv1 (by decide) (by decide)).trans hruA
  have kuA := (f.1 _ _ kuA).1
  have hruV := (f.2.1 v2 12 13 kv2 (by decide) (by decide)).trans hruV
  have kuV := (f.1 _ _ kuV).1
  have hruS := (f.2.1 v1 11 8 kv1 (by decide) (by decide)).trans hruS
  have luS := (f.1 _ _ kuS).2.trans luS
  have kuS := (f.1 _ _ kuS).1
  have hruK := (f.2.1 v2 12 63 kv2 (by decide) (by decide)).trans hruK
  have kuK := (f.1 _ _ kuK).1
  have hruC := (f.2.1 v2 12 64 kv2 (by decide) (by decide)).trans hruC
  have kuC := (f.1 _ _ kuC).1
  have hruB := (f.2.1 uT 10 0 kuT (by decide) (by decide)).trans hruB
  have hruM := (f.2.1 v2 12 18 kv2 (by decide) (by decide)).trans hruM
  have kuB := (f.1 _ _ kuB).1
  have kuM := (f.1 _ _ kuM).1
  have hruT := (f.2.1 v1 11 0 kv1 (by decide) (by decide)).trans hruT
  have kuT := (f.1 _ _ kuT).1
  have hruF := (f.2.1 v1 11 2 kv1 (by decide) (by decide)).trans hruF
  have kuF := (f.1 _ _ kuF).1
  have hl : jlen Z v3 = 1 := (f.1 _ _ kv3).2.trans hl
  have kv1 := (f.1 _ _ kv1).1
  have kv2 := (f.1 _ _ kv2).1
  have kv3 := (f.1 _ _ kv3).1
  refine ⟨vi_of (i_add rfl (show (1 : Int32).toInt = 1 from rfl) (by omega) (by omega)) (by omega) (by omega), ?_⟩
  refine ⟨vi_of (i_add rfl (show (2 : Int32).toInt = 2 from rfl) (by omega) (by omega)) (by omega) (by omega), ?_⟩
  have wo := w
  refine s21_X12_who w bd v2 _ _ kv2 hsh  (fun r2 Z I L w bd f cp p2 => ?_)
  have ht : (I v1 4).toInt + (T : Int) = 6 := by rw [f.2.2.1 v1 11 4 kv1 (by decide) (by decide)]; exact ht
  have ha0 := ARr_same (f.2.2.2 uF 8 2 uQ kuF hak.1 (by rw [hak.2.1.2]; rfl) rfl (by decide)) (f.2.2.2 v2 12 3 vQ kv2 hak.2.2.1 (by rw [hak.2.2.2.1.2]; rfl) rfl (by decide)) (congrArg Int32.toInt (f.2.2.1 v2 12 0 kv2 (by decide) (by decide))) ha0
  have hwi := WI_fr f kuF kv2 (by decide) hwi
  have hlb := LB_fr f wo kuF kv2 (by decide) hlb
  have hfb := FB_fr f kuF kv2 (by decide) hfb
  have hpb := PB_fr f kv1 kuA kv2 (by decide) hpb
  have hsh : (I v2 39).toInt = -1 := p2
  have hak := AK_fr f wo kuF kv2 kuS luS hru62 ku62 (by decide) hak
  have hm0 := MAI_fr wo hpc.2.2.2.1 hpc.2.2.2.2.1 hm1 f (by decide) (by decide) hm0
  have hp0 := PR_same (EQC_fr f hpc (by decide)) (EQM_fr f kv2 hpm (by decide)) hp0
  have hk2 : KP2 Z I uS u62 (I v2 0).toInt.toNat := by rw [(f.2.2.1 v2 12 0 kv2 (by decide) (by decide))]; exact KP2_fr f wo.1 kuS luS kv2 hru62 ku62 (by decide) (by decide) (by decide) hk2
  have hs0 := ARr_same (f.2.2.2 uF 8 1 uX kuF hruX (by rw [kuX.2]; rfl) rfl (by decide)) (f.2.2.2 v2 12 2 uY kv2 hruY (by rw [kuY.2]; rfl) rfl (by decide)) (congrArg Int32.toInt (f.2.2.1 v2 12 0 kv2 (by decide) (by decide))) hs0
  have hc0 := KC_fr f wo.1 kuS luS kv2 hru62 ku62 (by decide) (by decide) (by decide) (congrArg Int32.toInt (f.2.2.1 v2 12 0 kv2 (by decide) (by decide))) hc0
  have hs9 := ARr_same (f.2.2.2 uF 8 0 uR kuF hruR (by rw [kuR.2]; rfl) rfl (by decide)) (f.2.2.2 v2 12 1 vR kv2 hrvR (by rw [kvR.2]; rfl) rfl (by decide)) (congrArg Int32.toInt (f.2.2.1 v2 12 0 kv2 (by decide) (by decide))) hs9
  have hv0 := PRr_fr f kv1 kuA (eMf f kv2 hruV kuV rfl (by decide)) (by decide) (by decide) hv0
  have hk := HK_fr f kuS kv2 hruK kuK hruC kuC (by decide) (by decide) (by decide) (by decide) hk
  have hx := TBr_fr f kuT hruB kuB kv2 hruM kuM (by decide) (by decide) (by decide) (by decide) hx
  have ea201 := congrArg Int32.toInt (f.2.2.1 uF 8 9 kuF (by decide) (by decide))
  have ea202 := congrArg Int32.toInt (f.2.2.1 v2 12 0 kv2 (by decide) (by decide))
  have ea203 := congrArg Int32.toInt (f.2.2.1 v2 12 7 kv2 (by decide) (by decide))
  have ea204 := congrArg Int32.toInt (f.2.2.1 v1 11 4 kv1 (by decide) (by decide))
  have ea205 := congrArg Int32.toInt (f.2.2.1 v2 12 8 kv2 (by decide) (by decide))
  have hm1 := (f.2.1 uP 4 1 hpc.2.2.2.1 (by decide) (by decide)).trans hm1
  have hpc := PCs_x f.1 (fun a c j ka hc => f.2.1 a c j ka (by omega) (by omega)) kv1 hpc
  have hpm := PMs_x f.1 (fun j hj => f.2.1 v2 12 j kv2 (by omega) (by omega)) hpm
  have hru62 := (f.2.1 v2 12 62 kv2 (by decide) (by decide)).trans hru62
  have ku62 := (f.1 _ _ ku62).1
  have hruX := (f.2.1 uF 8 1 kuF (by decide) (by decide)).trans hruX
  have kuX := (f.1 _ _ kuX).1
  have hruY := (f.2.1 v2 12 2 kv2 (by decide) (by decide)).trans hruY
  have kuY := (f.1 _ _ kuY).1
  have hruR := (f.2.1 uF 8 0 kuF (by decide) (by decide)).trans hruR
  have kuR := (f.1 _ _ kuR).1
  have hrvR := (f.2.1 v2 12 1 kv2 (by decide) (by decide)).trans hrvR
  have kvR := (f.1 _ _ kvR).1
  have hruA := (f.2.1 v1 11 3 kv1 (by decide) (by decide)).trans hruA
  have kuA := (f.1 _ _ kuA).1
  have hruV := (f.2.1 v2 12 13 kv2 (by decide) (by decide)).trans hruV
  have kuV := (f.1 _ _ kuV).1
  have hruS := (f.2.1 v1 11 8 kv1 (by decide) (by decide)).trans hruS
  have luS := (f.1 _ _ kuS).2.trans luS
  have kuS := (f.1 _ _ kuS).1
  have hruK := (f.2.1 v2 12 63 kv2 (by decide) (by decide)).trans hruK
  have kuK := (f.1 _ _ kuK).1
  have hruC := (f.2.1 v2 12 64 kv2 (by decide) (by decide)).trans hruC
  have kuC := (f.1 _ _ kuC).1
  have hruB := (f.2.1 uT 10 0 kuT (by decide) (by decide)).trans hruB
  have hruM := (f.2.1 v2 12 18 kv2 (by decide) (by decide)).trans hruM
  have kuB := (f.1 _ _ kuB).1
  have kuM := (f.1 _ _ kuM).1
  have hruT := (f.2.1 v1 11 0 kv1 (by decide) (by decide)).trans hruT
  have kuT := (f.1 _ _ kuT).1
  have hruF := (f.2.1 v1 11 2 kv1 (by decide) (by decide)).trans hruF
  have kuF := (f.1 _ _ kuF).1
  have hl : jlen Z v3 = 1 := (f.1 _ _ kv3).2.trans hl
  have kv1 := (f.1 _ _ kv1).1
  have kv2 := (f.1 _ _ kv2).1
  have kv3 := (f.1 _ _ kv3).1
  unfold f_L_law_b1760
  intro x ex
  have tx : x.toInt = v4.toInt + 6 := by rw [ex]; exact i_add rfl (show (6 : Int32).toInt = 6 from rfl) (by omega) (by omega)
  exact hK _ _ _ x ex (LInv_mk (Z := Z) (I := I) T uT uB uM uF uS uK uC uA uV uX uY uR vR uP x0 x2 u5 u53 u54 u62 x1 uQ vQ uW vW t30 t29 u5c t6 t9 t10 t11 t12 ⟨w, bd, kv1, kv2, kv3, hl, ht, hruT, kuT, hruB, kuB, hruM⟩ ⟨kuM, hx, hruF, kuF, (by omega), (by omega), (by omega), hruS, kuS, luS, hruK, kuK⟩ ⟨hruC, kuC, hk, hruA, kuA, hruV, kuV, hv0, hruX, kuX, hruY, kuY⟩ ⟨hruR, kuR, hrvR, kvR, hs0, hc0, hs9, hpc, hpm, hru62, ku62, hp0⟩ ⟨hk2, hm1, hm0, hak, ha0, hwi, hlb, hfb, hpb, hsh⟩)
set_option maxHeartbeats 4000000 in
set_option maxRecDepth 100000 in
theorem k_b1072 {xs : Nat → Int32} {Ls : Nat} {B : Nat × Nat} {K : Nat → Nat → Nat → Int32 → jZ → jI → jL → Prop} {v1 v2 v3 : Nat} {v4 : Int32} {Z : jZ} {I : jI} {L : jL} {T uT uB uM uF uS uK uC uA uV uX uY uR vR uP x0 x2 u5 u53 u54 u62 x1 uQ vQ uW vW t30 t29 u5c t6 t9 t10 t11 t12 : Nat} (g0 : LG0 B v1 v2 v3 T uT uB uM Z I) (g1 : LG1 v1 v2 v4 uT uB uM uF uS uK Z I) (g2 : LG2 v1 v2 uF uS uK uC uA uV uX uY Z I) (g3 : LG3 v1 v2 uF uS uX uY uR vR uP x0 x2 u5 u53 u54 u62 Z I) (g4 : LG4 v1 v2 uF uS uA uP x0 u62 x1 uQ vQ uW vW t30 t29 u5c t6 t9 t10 t11 t12 Z I) (hv : 0 ≤ v4.toInt ∧ v4.toInt + 6 ≤ (Ls : Int) ∧ (Ls : Int) ≤ 3072) (hK : ∀ (Z : jZ) (I : jI) (L : jL) (x : Int32), x = v4 + 6 → LInv B v1 v2 v3 x Z I → K v1 v2 v3 x Z I L) : f_L_law_b1072 xs Ls B K v1 v2 v3 v4 Z I L := by
  obtain ⟨w, bd, kv1, kv2, kv3, hl, ht, hruT, kuT, hruB, kuB, hruM⟩ := g0
  obtain ⟨kuM, hx, hruF, kuF, hx1, hx2, hx3, hruS, kuS, luS, hruK, kuK⟩ := g1
  obtain ⟨hruC, kuC, hk, hruA, kuA, hruV, kuV, hv0, hruX, kuX, hruY, kuY⟩ := g2
  obtain ⟨hruR, kuR, hrvR, kvR, hs0, hc0, hs9, hpc, hpm, hru62, ku62, hp0⟩ := g3
  obtain ⟨hk2, hm1, hm0, hak, ha0, hwi, hlb, hfb, hpb, hsh⟩ := g4
  unfold f_L_law_b1072
  refine ⟨vi_of (i_add rfl (show (1 : Int32).toInt = 1 from rfl) (by omega) (by omega)) (by omega) (by omega), ?_⟩
  refine ⟨vi_of (i_add rfl (show (2 : Int32).toInt = 2 from rfl) (by omega) (by omega)) (by omega) (by omega), ?_⟩
  have wo := w
  refine s_X11_next w bd v1 _ _ kv1  (fun r1 Z I L w bd f cp => ?_)
  have ht : (I v1 4).toInt + (T : Int) = 6 := by rw [f.2.2.1 v1 11 4 kv1 (by decide) (by decide)]; exact ht
  have ha0 := ARr_same (f.2.2.2 uF 8 2 uQ kuF hak.1 (by rw [hak.2.1.2]; rfl) rfl (by decide)) (f.2.2.2 v2 12 3 vQ kv2 hak.2.2.1 (by rw [hak.2.2.2.1.2]; rfl) rfl (by decide)) (congrArg Int32.toInt (f.2.2.1 v2 12 0 kv2 (by decide) (by decide))) ha0
  have hwi := WI_fr f kuF kv2 (by decide) hwi
  have hlb := LB_fr f wo kuF kv2 (by decide) hlb
  have hfb := FB_fr f kuF kv2 (by decide) hfb
  have hpb := PB_fr f kv1 kuA kv2 (by decide) hpb
  have hsh : (I v2 39).toInt = -1 := by rw [f.2.2.1 v2 12 39 kv2 (by decide) (by decide)]; exact hsh
  have hak := AK_fr f wo kuF kv2 kuS luS hru62 ku62 (by decide) hak
  have hm0 := MAI_fr wo hpc.2.2.2.1 hpc.2.2.2.2.1 hm1 f (by decide) (by decide) hm0
  have hp0 := PR_same (EQC_fr f hpc (by decide)) (EQM_fr f kv2 hpm (by decide)) hp0
  have hk2 : KP2 Z I uS u62 (I v2 0).toInt.toNat := by rw [(f.2.2.1 v2 12 0 kv2 (by decide) (by decide))]; exact KP2_fr f wo.1 kuS luS kv2 hru62 ku62 (by decide) (by decide) (by decide) hk2
  have hs0 := ARr_same (f.2.2.2 uF 8 1 uX kuF hruX (by rw [kuX.2]; rfl) rfl (by decide)) (f.2.2.2 v2 12 2 uY kv2 hruY (by rw [kuY.2]; rfl) rfl (by decide)) (congrArg Int32.toInt (f.2.2.1 v2 12 0 kv2 (by decide) (by decide))) hs0
  have hc0 := KC_fr f wo.1 kuS luS kv2 hru62 ku62 (by decide) (by decide) (by decide) (congrArg Int32.toInt (f.2.2.1 v2 12 0 kv2 (by decide) (by decide))) hc0
  have hs9 := ARr_same (f.2.2.2 uF 8 0 uR kuF hruR (by rw [kuR.2]; rfl) rfl (by decide)) (f.2.2.2 v2 12 1 vR kv2 hrvR (by rw [kvR.2]; rfl) rfl (by decide)) (congrArg Int32.toInt (f.2.2.1 v2 12 0 kv2 (by decide) (by decide))) hs9
  have hv0 := PRr_fr f kv1 kuA (eMf f kv2 hruV kuV rfl (by decide)) (by decide) (by decide) hv0
  have hk := HK_fr f kuS kv2 hruK kuK hruC kuC (by decide) (by decide) (by decide) (by decide) hk
  have hx := TBr_fr f kuT hruB kuB kv2 hruM kuM (by decide) (by decide) (by decide) (by decide) hx
  have ea206 := congrArg Int32.toInt (f.2.2.1 uF 8 9 kuF (by decide) (by decide))
  have ea207 := congrArg Int32.toInt (f.2.2.1 v2 12 0 kv2 (by decide) (by decide))
  have ea208 := congrArg Int32.toInt (f.2.2.1 v2 12 7 kv2 (by decide) (by decide))
  have ea209 := congrArg Int32.toInt (f.2.2.1 v1 11 4 kv1 (by decide) (by decide))
  have ea210 := congrArg Int32.toInt (f.2.2.1 v2 12 8 kv2 (by decide) (by decide))
  have hm1 := (f.2.1 uP 4 1 hpc.2.2.2.1 (by decide) (by decide)).trans hm1
  have hpc := PCs_x f.1 (fun a c j ka hc => f.2.1 a c j ka (by omega) (by omega)) kv1 hpc
  have hpm := PMs_x f.1 (fun j hj => f.2.1 v2 12 j kv2 (by omega) (by omega)) hpm
  have hru62 := (f.2.1 v2 12 62 kv2 (by decide) (by decide)).trans hru62
  have ku62 := (f.1 _ _ ku62).1
  have hruX := (f.2.1 uF 8 1 kuF (by decide) (by decide)).trans hruX
  have kuX := (f.1 _ _ kuX).1
  have hruY := (f.2.1 v2 12 2 kv2 (by decide) (by decide)).trans hruY
  have kuY := (f.1 _ _ kuY).1
  have hruR := (f.2.1 uF 8 0 kuF (by decide) (by decide)).trans hruR
  have kuR := (f.1 _ _ kuR).1
  have hrvR := (f.2.1 v2 12 1 kv2 (by decide) (by decide)).trans hrvR
  have kvR := (f.1 _ _ kvR).1
  have hruA := (f.2.1 v1 11 3 kv1 (by decide) (by decide)).trans hruA
  have kuA := (f.1 _ _ kuA).1
  have hruV := (f.2.1 v2 12 13 kv2 (by decide) (by decide)).trans hruV
  have kuV := (f.1 _ _ kuV).1
  have hruS := (f.2.1 v1 11 8 kv1 (by decide) (by decide)).trans hruS
  have luS := (f.1 _ _ kuS).2.trans luS
  have kuS := (f.1 _ _ kuS).1
  have hruK := (f.2.1 v2 12 63 kv2 (by decide) (by decide)).trans hruK
  have kuK := (f.1 _ _ kuK).1
  have hruC := (f.2.1 v2 12 64 kv2 (by decide) (by decide)).trans hruC
  have kuC := (f.1 _ _ kuC).1
  have hruB := (f.2.1 uT 10 0 kuT (by decide) (by decide)).trans hruB
  have hruM := (f.2.1 v2 12 18 kv2 (by decide) (by decide)).trans hruM
  have kuB := (f.1 _ _ kuB).1
  have kuM := (f.1 _ _ kuM).1
  have hruT := (f.2.1 v1 11 0 kv1 (by decide) (by decide)).trans hruT
  have kuT := (f.1 _ _ kuT).1
  have hruF := (f.2.1 v1 11 2 kv1 (by decide) (by decide)).trans hruF
  have kuF := (f.1 _ _ kuF).1
  have hl : jlen Z v3 = 1 := (f.1 _ _ kv3).2.trans hl
  have kv1 := (f.1 _ _ kv1).1
  have kv2 := (f.1 _ _ kv2).1
  have kv3 := (f.1 _ _ kv3).1
  refine ⟨vi_of (i_add rfl (show (1 : Int32).toInt = 1 from rfl) (by omega) (by omega)) (by omega) (by omega), ?_⟩
  refine ⟨vi_of (i_add rfl (show (2 : Int32).toInt = 2 from rfl) (by omega) (by omega)) (by omega) (by omega), ?_⟩
  have wo := w
  obtain ⟨uC9, huC9, -⟩ := sh_f w.1 kv2 (j := 37) (k := 14) (m := 75) rfl
  obtain ⟨uE9, huE9, -⟩ := sh_f w.1 kv2 (j := 38) (k := 14) (m := 75) rfl
  obtain ⟨uB9, huB9, -⟩ := sh_f w.1 kv2 (j := 40) (k := 14) (m := 25000) rfl
  refine s_X12_next w bd v2 _ _ kv2 uC9 huC9 uE9 huE9 uB9 huB9  (fun r2 Z I L w bd f cp => ?_)
  have ht : (I v1 4).toInt + (T : Int) = 6 := by rw [f.2.2.1 v1 11 4 kv1 (by decide) (by decide)]; exact ht
  have ha0 := ARr_same (f.2.2.2 uF 8 2 uQ kuF hak.1 (by rw [hak.2.1.2]; rfl) rfl (by decide)) (f.2.2.2 v2 12 3 vQ kv2 hak.2.2.1 (by rw [hak.2.2.2.1.2]; rfl) rfl (by decide)) (congrArg Int32.toInt (f.2.2.1 v2 12 0 kv2 (by decide) (by decide))) ha0
  have hwi := WI_fr f kuF kv2 (by decide) hwi
  have hlb := LB_fr f wo kuF kv2 (by decide) hlb
  have hfb := FB_fr f kuF kv2 (by decide) hfb
  have hpb := PB_fr f kv1 kuA kv2 (by decide) hpb
  have hsh : (I v2 39).toInt = -1 := by rw [f.2.2.1 v2 12 39 kv2 (by decide) (by decide)]; exact hsh
  have hak := AK_fr f wo kuF kv2 kuS luS hru62 ku62 (by decide) hak
  have hm0 := MAI_fr wo hpc.2.2.2.1 hpc.2.2.2.2.1 hm1 f (by decide) (by decide) hm0
  have hp0 := PR_same (EQC_fr f hpc (by decide)) (EQM_fr f kv2 hpm (by decide)) hp0
  have hk2 : KP2 Z I uS u62 (I v2 0).toInt.toNat := by rw [(f.2.2.1 v2 12 0 kv2 (by decide) (by decide))]; exact KP2_fr f wo.1 kuS luS kv2 hru62 ku62 (by decide) (by decide) (by decide) hk2
  have hs0 := ARr_same (f.2.2.2 uF 8 1 uX kuF hruX (by rw [kuX.2]; rfl) rfl (by decide)) (f.2.2.2 v2 12 2 uY kv2 hruY (by rw [kuY.2]; rfl) rfl (by decide)) (congrArg Int32.toInt (f.2.2.1 v2 12 0 kv2 (by decide) (by decide))) hs0
  have hc0 := KC_fr f wo.1 kuS luS kv2 hru62 ku62 (by decide) (by decide) (by decide) (congrArg Int32.toInt (f.2.2.1 v2 12 0 kv2 (by decide) (by decide))) hc0
  have hs9 := ARr_same (f.2.2.2 uF 8 0 uR kuF hruR (by rw [kuR.2]; rfl) rfl (by decide)) (f.2.2.2 v2 12 1 vR kv2 hrvR (by rw [kvR.2]; rfl) rfl (by decide)) (congrArg Int32.toInt (f.2.2.1 v2 12 0 kv2 (by decide) (by decide))) hs9
  have hv0 := PRr_fr f kv1 kuA (eMf f kv2 hruV kuV rfl (by decide)) (by decide) (by decide) hv0
  have hk := HK_fr f kuS kv2 hruK kuK hruC kuC (by decide) (by decide) (by decide) (by decide) hk
  have hx := TBr_fr f kuT hruB kuB kv2 hruM kuM (by decide) (by decide) (by decide) (by decide) hx
  have ea211 := congrArg Int32.toInt (f.2.2.1 uF 8 9 kuF (by decide) (by decide))
  have ea212 := congrArg Int32.toInt (f.2.2.1 v2 12 0 kv2 (by decide) (by decide))
  have ea213 := congrArg Int32.toInt (f.2.2.1 v2 12 7 kv2 (by decide) (by decide))
  have ea214 := congrArg Int32.toInt (f.2.2.1 v1 11 4 kv1 (by decide) (by decide))
  have ea215 := congrArg Int32.toInt (f.2.2.1 v2 12 8 kv2 (by decide) (by decide))
  have hm1 := (f.2.1 uP 4 1 hpc.2.2.2.1 (by decide) (by decide)).trans hm1
  have hpc := PCs_x f.1 (fun a c j ka hc => f.2.1 a c j ka (by omega) (by omega)) kv1 hpc
  have hpm := PMs_x f.1 (fun j hj => f.2.1 v2 12 j kv2 (by omega) (by omega)) hpm
  have hru62 := (f.2.1 v2 12 62 kv2 (by decide) (by decide)).trans hru62
  have ku62 := (f.1 _ _ ku62).1
  have hruX := (f.2.1 uF 8 1 kuF (by decide) (by decide)).trans hruX
  have kuX := (f.1 _ _ kuX).1
  have hruY := (f.2.1 v2 12 2 kv2 (by decide) (by decide)).trans hruY
  have kuY := (f.1 _ _ kuY).1
  have hruR := (f.2.1 uF 8 0 kuF (by decide) (by decide)).trans hruR
  have kuR := (f.1 _ _ kuR).1
  have hrvR := (f.2.1 v2 12 1 kv2 (by decide) (by decide)).trans hrvR
  have kvR := (f.1 _ _ kvR).1
  have hruA := (f.2.1 v1 11 3 kv1 (by decide) (by decide)).trans hruA
  have kuA := (f.1 _ _ kuA).1
  have hruV := (f.2.1 v2 12 13 kv2 (by decide) (by decide)).trans hruV
  have kuV := (f.1 _ _ kuV).1
  have hruS := (f.2.1 v1 11 8 kv1 (by decide) (by decide)).trans hruS
  have luS := (f.1 _ _ kuS).2.trans luS
  have kuS := (f.1 _ _ kuS).1
  have hruK := (f.2.1 v2 12 63 kv2 (by decide) (by decide)).trans hruK
  have kuK := (f.1 _ _ kuK).1
  have hruC := (f.2.1 v2 12 64 kv2 (by decide) (by decide)).trans hruC
  have kuC := (f.1 _ _ kuC).1
  have hruB := (f.2.1 uT 10 0 kuT (by decide) (by decide)).trans hruB
  have hruM := (f.2.1 v2 12 18 kv2 (by decide) (by decide)).trans hruM
  have kuB := (f.1 _ _ kuB).1
  have kuM := (f.1 _ _ kuM).1
  have hruT := (f.2.1 v1 11 0 kv1 (by decide) (by decide)).trans hruT
  have kuT := (f.1 _ _ kuT).1
  have hruF := (f.2.1 v1 11 2 kv1 (by decide) (by decide)).trans hruF
  have kuF := (f.1 _ _ kuF).1
  have hl : jlen Z v3 = 1 := (f.1 _ _ kv3).2.trans hl
  have kv1 := (f.1 _ _ kv1).1
  have kv2 := (f.1 _ _ kv2).1
  have kv3 := (f.1 _ _ kv3).1
  unfold f_L_law_b1760
  intro x ex
  have tx : x.toInt = v4.toInt + 6 := by rw [ex]; exact i_add rfl (show (6 : Int32).toInt = 6 from rfl) (by omega) (by omega)
  exact hK _ _ _ x ex (LInv_mk (Z := Z) (I := I) T uT uB uM uF uS uK uC uA uV uX uY uR vR uP x0 x2 u5 u53 u54 u62 x1 uQ vQ uW vW t30 t29 u5c t6 t9 t10 t11 t12 ⟨w, bd, kv1, kv2, kv3, hl, ht, hruT, kuT, hruB, kuB, hruM⟩ ⟨kuM, hx, hruF, kuF, (by omega), (by omega), (by omega), hruS, kuS, luS, hruK, kuK⟩ ⟨hruC, kuC, hk, hruA, kuA, hruV, kuV, hv0, hruX, kuX, hruY, kuY⟩ ⟨hruR, kuR, hrvR, kvR, hs0, hc0, hs9, hpc, hpm, hru62, ku62, hp0⟩ ⟨hk2, hm1, hm0, hak, ha0, hwi, hlb, hfb, hpb, hsh⟩)
set_option maxHeartbeats 4000000 in
set_option maxRecDepth 100000 in
theorem k_b1109 {xs : Nat → Int32} {Ls : Nat} {B : Nat × Nat} {K : Nat → Nat → Nat → Int32 → jZ → jI → jL → Prop} {v1 v2 v3 : Nat} {v4 : Int32} {Z : jZ} {I : jI} {L : jL} {T uT uB uM uF uS uK uC uA uV uX uY uR vR uP x0 x2 u5 u53 u54 u62 x1 uQ vQ uW vW t30 t29 u5c t6 t9 t10 t11 t12 : Nat} (g0 : LG0 B v1 v2 v3 T uT uB uM Z I) (g1 : LG1 v1 v2 v4 uT uB uM uF uS uK Z I) (g2 : LG2 v1 v2 uF uS uK uC uA uV uX uY Z I) (g3 : LG3 v1 v2 uF uS uX uY uR vR uP x0 x2 u5 u53 u54 u62 Z I) (g4 : LG4 v1 v2 uF uS uA uP x0 u62 x1 uQ vQ uW vW t30 t29 u5c t6 t9 t10 t11 t12 Z I) (hv : 0 ≤ v4.toInt ∧ v4.toInt + 6 ≤ (Ls : Int) ∧ (Ls : Int) ≤ 3072) (hK : ∀ (Z : jZ) (I : jI) (L : jL) (x : Int32), x = v4 + 6 → LInv B v1 v2 v3 x Z I → K v1 v2 v3 x Z I L) : f_L_law_b1109 xs Ls B K v1 v2 v3 v4 Z I L := by
  obtain ⟨w, bd, kv1, kv2, kv3, hl, ht, hruT, kuT, hruB, kuB, hruM⟩ := g0
  obtain ⟨kuM, hx, hruF, kuF, hx1, hx2, hx3, hruS, kuS, luS, hruK, kuK⟩ := g1
  obtain ⟨hruC, kuC, hk, hruA, kuA, hruV, kuV, hv0, hruX, kuX, hruY, kuY⟩ := g2
  obtain ⟨hruR, kuR, hrvR, kvR, hs0, hc0, hs9, hpc, hpm, hru62, ku62, hp0⟩ := g3
  obtain ⟨hk2, hm1, hm0, hak, ha0, hwi, hlb, hfb, hpb, hsh⟩ := g4
  unfold f_L_law_b1109
  refine ⟨vi_of (i_add rfl (show (1 : Int32).toInt = 1 from rfl) (by omega) (by omega)) (by omega) (by omega), ?_⟩
  have wo := w
  refine s_X11_bears w bd v1 _ kv1  (fun r1 Z I L w bd f cp => ?_)
  have ht : (I v1 4).toInt + (T : Int) = 6 := by rw [f.2.2.1 v1 11 4 kv1 (by decide) (by decide)]; exact ht
  have ha0 := ARr_same (f.2.2.2 uF 8 2 uQ kuF hak.1 (by rw [hak.2.1.2]; rfl) rfl (by decide)) (f.2.2.2 v2 12 3 vQ kv2 hak.2.2.1 (by rw [hak.2.2.2.1.2]; rfl) rfl (by decide)) (congrArg Int32.toInt (f.2.2.1 v2 12 0 kv2 (by decide) (by decide))) ha0
  have hwi := WI_fr f kuF kv2 (by decide) hwi
  have hlb := LB_fr f wo kuF kv2 (by decide) hlb
  have hfb := FB_fr f kuF kv2 (by decide) hfb
  have hpb := PB_fr f kv1 kuA kv2 (by decide) hpb
  have hsh : (I v2 39).toInt = -1 := by rw [f.2.2.1 v2 12 39 kv2 (by decide) (by decide)]; exact hsh
  have hak := AK_fr f wo kuF kv2 kuS luS hru62 ku62 (by decide) hak
  have hm0 := MAI_fr wo hpc.2.2.2.1 hpc.2.2.2.2.1 hm1 f (by decide) (by decide) hm0
  have hp0 := PR_same (EQC_fr f hpc (by decide)) (EQM_fr f kv2 hpm (by decide)) hp0
  have hk2 : KP2 Z I uS u62 (I v2 0).toInt.toNat := by rw [(f.2.2.1 v2 12 0 kv2 (by decide) (by decide))]; exact KP2_fr f wo.1 kuS luS kv2 hru62 ku62 (by decide) (by decide) (by decide) hk2
  have hs0 := ARr_same (f.2.2.2 uF 8 1 uX kuF hruX (by rw [kuX.2]; rfl) rfl (by decide)) (f.2.2.2 v2 12 2 uY kv2 hruY (by rw [kuY.2]; rfl) rfl (by decide)) (congrArg Int32.toInt (f.2.2.1 v2 12 0 kv2 (by decide) (by decide))) hs0
  have hc0 := KC_fr f wo.1 kuS luS kv2 hru62 ku62 (by decide) (by decide) (by decide) (congrArg Int32.toInt (f.2.2.1 v2 12 0 kv2 (by decide) (by decide))) hc0
  have hs9 := ARr_same (f.2.2.2 uF 8 0 uR kuF hruR (by rw [kuR.2]; rfl) rfl (by decide)) (f.2.2.2 v2 12 1 vR kv2 hrvR (by rw [kvR.2]; rfl) rfl (by decide)) (congrArg Int32.toInt (f.2.2.1 v2 12 0 kv2 (by decide) (by decide))) hs9
  have hv0 := PRr_fr f kv1 kuA (eMf f kv2 hruV kuV rfl (by decide)) (by decide) (by decide) hv0
  have hk := HK_fr f kuS kv2 hruK kuK hruC kuC (by decide) (by decide) (by decide) (by decide) hk
  have hx := TBr_fr f kuT hruB kuB kv2 hruM kuM (by decide) (by decide) (by decide) (by decide) hx
  have ea216 := congrArg Int32.toInt (f.2.2.1 uF 8 9 kuF (by decide) (by decide))
  have ea217 := congrArg Int32.toInt (f.2.2.1 v2 12 0 kv2 (by decide) (by decide))
  have ea218 := congrArg Int32.toInt (f.2.2.1 v2 12 7 kv2 (by decide) (by decide))
  have ea219 := congrArg Int32.toInt (f.2.2.1 v1 11 4 kv1 (by decide) (by decide))
  have ea220 := congrArg Int32.toInt (f.2.2.1 v2 12 8 kv2 (by decide) (by decide))
  have hm1 := (f.2.1 uP 4 1 hpc.2.2.2.1 (by decide) (by decide)).trans hm1
  have hpc := PCs_x f.1 (fun a c j ka hc => f.2.1 a c j ka (by omega) (by omega)) kv1 hpc
  have hpm := PMs_x f.1 (fun j hj => f.2.1 v2 12 j kv2 (by omega) (by omega)) hpm
  have hru62 := (f.2.1 v2 12 62 kv2 (by decide) (by decide)).trans hru62
  have ku62 := (f.1 _ _ ku62).1
  have hruX := (f.2.1 uF 8 1 kuF (by decide) (by decide)).trans hruX
  have kuX := (f.1 _ _ kuX).1
  have hruY := (f.2.1 v2 12 2 kv2 (by decide) (by decide)).trans hruY
  have kuY := (f.1 _ _ kuY).1
  have hruR := (f.2.1 uF 8 0 kuF (by decide) (by decide)).trans hruR
  have kuR := (f.1 _ _ kuR).1
  have hrvR := (f.2.1 v2 12 1 kv2 (by decide) (by decide)).trans hrvR
  have kvR := (f.1 _ _ kvR).1
  have hruA := (f.2.1 v1 11 3 kv1 (by decide) (by decide)).trans hruA
  have kuA := (f.1 _ _ kuA).1
  have hruV := (f.2.1 v2 12 13 kv2 (by decide) (by decide)).trans hruV
  have kuV := (f.1 _ _ kuV).1
  have hruS := (f.2.1 v1 11 8 kv1 (by decide) (by decide)).trans hruS
  have luS := (f.1 _ _ kuS).2.trans luS
  have kuS := (f.1 _ _ kuS).1
  have hruK := (f.2.1 v2 12 63 kv2 (by decide) (by decide)).trans hruK
  have kuK := (f.1 _ _ kuK).1
  have hruC := (f.2.1 v2 12 64 kv2 (by decide) (by decide)).trans hruC
  have kuC := (f.1 _ _ kuC).1
  have hruB := (f.2.1 uT 10 0 kuT (by decide) (by decide)).trans hruB
  have hruM := (f.2.1 v2 12 18 kv2 (by decide) (by decide)).trans hruM
  have kuB := (f.1 _ _ kuB).1
  have kuM := (f.1 _ _ kuM).1
  have hruT := (f.2.1 v1 11 0 kv1 (by decide) (by decide)).trans hruT
  have kuT := (f.1 _ _ kuT).1
  have hruF := (f.2.1 v1 11 2 kv1 (by decide) (by decide)).trans hruF
  have kuF := (f.1 _ _ kuF).1
  have hl : jlen Z v3 = 1 := (f.1 _ _ kv3).2.trans hl
  have kv1 := (f.1 _ _ kv1).1
  have kv2 := (f.1 _ _ kv2).1
  have kv3 := (f.1 _ _ kv3).1
  refine ⟨vi_of (i_add rfl (show (1 : Int32).toInt = 1 from rfl) (by omega) (by omega)) (by omega) (by omega), ?_⟩
  have wo := w
  refine s21_X12_bears w bd v2 _ kv2 t12 hpb.1.2.2.2.2.2.2.1  (fun r2 Z I L w bd f cp p2 => ?_)
  have ht : (I v1 4).toInt + (T : Int) = 6 := by rw [f.2.2.1 v1 11 4 kv1 (by decide) (by decide)]; exact ht
  have ha0 := ARr_same (f.2.2.2 uF 8 2 uQ kuF hak.1 (by rw [hak.2.1.2]; rfl) rfl (by decide)) (f.2.2.2 v2 12 3 vQ kv2 hak.2.2.1 (by rw [hak.2.2.2.1.2]; rfl) rfl (by decide)) (congrArg Int32.toInt (f.2.2.1 v2 12 0 kv2 (by decide) (by decide))) ha0
  have hwi := WI_fr f kuF kv2 (by decide) hwi
  have hlb := LB_fr f wo kuF kv2 (by decide) hlb
  have hfb := FB_fr f kuF kv2 (by decide) hfb
  have hpb := PB_load f kv1 kuA kv2 (by decide) p2 hpb
  have hsh : (I v2 39).toInt = -1 := by rw [f.2.2.1 v2 12 39 kv2 (by decide) (by decide)]; exact hsh
  have hak := AK_fr f wo kuF kv2 kuS luS hru62 ku62 (by decide) hak
  have hm0 := MAI_fr wo hpc.2.2.2.1 hpc.2.2.2.2.1 hm1 f (by decide) (by decide) hm0
  have hp0 := PR_same (EQC_fr f hpc (by decide)) (EQM_fr f kv2 hpm (by decide)) hp0
  have hk2 : KP2 Z I uS u62 (I v2 0).toInt.toNat := by rw [(f.2.2.1 v2 12 0 kv2 (by decide) (by decide))]; exact KP2_fr f wo.1 kuS luS kv2 hru62 ku62 (by decide) (by decide) (by decide) hk2
  have hs0 := ARr_same (f.2.2.2 uF 8 1 uX kuF hruX (by rw [kuX.2]; rfl) rfl (by decide)) (f.2.2.2 v2 12 2 uY kv2 hruY (by rw [kuY.2]; rfl) rfl (by decide)) (congrArg Int32.toInt (f.2.2.1 v2 12 0 kv2 (by decide) (by decide))) hs0
  have hc0 := KC_fr f wo.1 kuS luS kv2 hru62 ku62 (by decide) (by decide) (by decide) (congrArg Int32.toInt (f.2.2.1 v2 12 0 kv2 (by decide) (by decide))) hc0
  have hs9 := ARr_same (f.2.2.2 uF 8 0 uR kuF hruR (by rw [kuR.2]; rfl) rfl (by decide)) (f.2.2.2 v2 12 1 vR kv2 hrvR (by rw [kvR.2]; rfl) rfl (by decide)) (congrArg Int32.toInt (f.2.2.1 v2 12 0 kv2 (by decide) (by decide))) hs9
  have hv0 := PRr_fr f kv1 kuA (eMf f kv2 hruV kuV rfl (by decide)) (by decide) (by decide) hv0
  have hk := HK_fr f kuS kv2 hruK kuK hruC kuC (by decide) (by decide) (by decide) (by decide) hk
  have hx := TBr_fr f kuT hruB kuB kv2 hruM kuM (by decide) (by decide) (by decide) (by decide) hx
  have ea221 := congrArg Int32.toInt (f.2.2.1 uF 8 9 kuF (by decide) (by decide))
  have ea222 := congrArg Int32.toInt (f.2.2.1 v2 12 0 kv2 (by decide) (by decide))
  have ea223 := congrArg Int32.toInt (f.2.2.1 v2 12 7 kv2 (by decide) (by decide))
  have ea224 := congrArg Int32.toInt (f.2.2.1 v1 11 4 kv1 (by decide) (by decide))
  have ea225 := congrArg Int32.toInt (f.2.2.1 v2 12 8 kv2 (by decide) (by decide))
  have hm1 := (f.2.1 uP 4 1 hpc.2.2.2.1 (by decide) (by decide)).trans hm1
  have hpc := PCs_x f.1 (fun a c j ka hc => f.2.1 a c j ka (by omega) (by omega)) kv1 hpc
  have hpm := PMs_x f.1 (fun j hj => f.2.1 v2 12 j kv2 (by omega) (by omega)) hpm
  have hru62 := (f.2.1 v2 12 62 kv2 (by decide) (by decide)).trans hru62
  have ku62 := (f.1 _ _ ku62).1
  have hruX := (f.2.1 uF 8 1 kuF (by decide) (by decide)).trans hruX
  have kuX := (f.1 _ _ kuX).1
  have hruY := (f.2.1 v2 12 2 kv2 (by decide) (by decide)).trans hruY
  have kuY := (f.1 _ _ kuY).1
  have hruR := (f.2.1 uF 8 0 kuF (by decide) (by decide)).trans hruR
  have kuR := (f.1 _ _ kuR).1
  have hrvR := (f.2.1 v2 12 1 kv2 (by decide) (by decide)).trans hrvR
  have kvR := (f.1 _ _ kvR).1
  have hruA := (f.2.1 v1 11 3 kv1 (by decide) (by decide)).trans hruA
  have kuA := (f.1 _ _ kuA).1
  have hruV := (f.2.1 v2 12 13 kv2 (by decide) (by decide)).trans hruV
  have kuV := (f.1 _ _ kuV).1
  have hruS := (f.2.1 v1 11 8 kv1 (by decide) (by decide)).trans hruS
  have luS := (f.1 _ _ kuS).2.trans luS
  have kuS := (f.1 _ _ kuS).1
  have hruK := (f.2.1 v2 12 63 kv2 (by decide) (by decide)).trans hruK
  have kuK := (f.1 _ _ kuK).1
  have hruC := (f.2.1 v2 12 64 kv2 (by decide) (by decide)).trans hruC
  have kuC := (f.1 _ _ kuC).1
  have hruB := (f.2.1 uT 10 0 kuT (by decide) (by decide)).trans hruB
  have hruM := (f.2.1 v2 12 18 kv2 (by decide) (by decide)).trans hruM
  have kuB := (f.1 _ _ kuB).1
  have kuM := (f.1 _ _ kuM).1
  have hruT := (f.2.1 v1 11 0 kv1 (by decide) (by decide)).trans hruT
  have kuT := (f.1 _ _ kuT).1
  have hruF := (f.2.1 v1 11 2 kv1 (by decide) (by decide)).trans hruF
  have kuF := (f.1 _ _ kuF).1
  have hl : jlen Z v3 = 1 := (f.1 _ _ kv3).2.trans hl
  have kv1 := (f.1 _ _ kv1).1
  have kv2 := (f.1 _ _ kv2).1
  have kv3 := (f.1 _ _ kv3).1
  unfold f_L_law_b1760
  intro x ex
  have tx : x.toInt = v4.toInt + 6 := by rw [ex]; exact i_add rfl (show (6 : Int32).toInt = 6 from rfl) (by omega) (by omega)
  exact hK _ _ _ x ex (LInv_mk (Z := Z) (I := I) T uT uB uM uF uS uK uC uA uV uX uY uR vR uP x0 x2 u5 u53 u54 u62 x1 uQ vQ uW vW t30 t29 u5c t6 t9 t10 t11 t12 ⟨w, bd, kv1, kv2, kv3, hl, ht, hruT, kuT, hruB, kuB, hruM⟩ ⟨kuM, hx, hruF, kuF, (by omega), (by omega), (by omega), hruS, kuS, luS, hruK, kuK⟩ ⟨hruC, kuC, hk, hruA, kuA, hruV, kuV, hv0, hruX, kuX, hruY, kuY⟩ ⟨hruR, kuR, hrvR, kvR, hs0, hc0, hs9, hpc, hpm, hru62, ku62, hp0⟩ ⟨hk2, hm1, hm0, hak, ha0, hwi, hlb, hfb, hpb, hsh⟩)
set_option maxHeartbeats 4000000 in
set_option maxRecDepth 100000 in
theorem k_b1134 {xs : Nat → Int32} {Ls : Nat} {B : Nat × Nat} {K : Nat → Nat → Nat → Int32 → jZ → jI → jL → Prop} {v1 v2 v3 : Nat} {v4 : Int32} {Z : jZ} {I : jI} {L : jL} {T uT uB uM uF uS uK uC uA uV uX uY uR vR uP x0 x2 u5 u53 u54 u62 x1 uQ vQ uW vW t30 t29 u5c t6 t9 t10 t11 t12 : Nat} (g0 : LG0 B v1 v2 v3 T uT uB uM Z I) (g1 : LG1 v1 v2 v4 uT uB uM uF uS uK Z I) (g2 : LG2 v1 v2 uF uS uK uC uA uV uX uY Z I) (g3 : LG3 v1 v2 uF uS uX uY uR vR uP x0 x2 u5 u53 u54 u62 Z I) (g4 : LG4 v1 v2 uF uS uA uP x0 u62 x1 uQ vQ uW vW t30 t29 u5c t6 t9 t10 t11 t12 Z I) (hv : 0 ≤ v4.toInt ∧ v4.toInt + 6 ≤ (Ls : Int) ∧ (Ls : Int) ≤ 3072) (hK : ∀ (Z : jZ) (I : jI) (L : jL) (x : Int32), x = v4 + 6 → LInv B v1 v2 v3 x Z I → K v1 v2 v3 x Z I L) : f_L_law_b1134 xs Ls B K v1 v2 v3 v4 Z I L := by
  obtain ⟨w, bd, kv1, kv2, kv3, hl, ht, hruT, kuT, hruB, kuB, hruM⟩ := g0
  obtain ⟨kuM, hx, hruF, kuF, hx1, hx2, hx3, hruS, kuS, luS, hruK, kuK⟩ := g1
  obtain ⟨hruC, kuC, hk, hruA, kuA, hruV, kuV, hv0, hruX, kuX, hruY, kuY⟩ := g2
  obtain ⟨hruR, kuR, hrvR, kvR, hs0, hc0, hs9, hpc, hpm, hru62, ku62, hp0⟩ := g3
  obtain ⟨hk2, hm1, hm0, hak, ha0, hwi, hlb, hfb, hpb, hsh⟩ := g4
  unfold f_L_law_b1134
  refine ⟨vi_of (i_add rfl (show (1 : Int32).toInt = 1 from rfl) (by omega) (by omega)) (by omega) (by omega), ?_⟩
  have wo := w
  refine s_X11_breaks w bd v1 _ kv1  (fun r1 Z I L w bd f cp => ?_)
  have ht : (I v1 4).toInt + (T : Int) = 6 := by rw [f.2.2.1 v1 11 4 kv1 (by decide) (by decide)]; exact ht
  have ha0 := ARr_same (f.2.2.2 uF 8 2 uQ kuF hak.1 (by rw [hak.2.1.2]; rfl) rfl (by decide)) (f.2.2.2 v2 12 3 vQ kv2 hak.2.2.1 (by rw [hak.2.2.2.1.2]; rfl) rfl (by decide)) (congrArg Int32.toInt (f.2.2.1 v2 12 0 kv2 (by decide) (by decide))) ha0
  have hwi := WI_fr f kuF kv2 (by decide) hwi
  have hlb := LB_fr f wo kuF kv2 (by decide) hlb
  have hfb := FB_fr f kuF kv2 (by decide) hfb
  have hpb := PB_fr f kv1 kuA kv2 (by decide) hpb
  have hsh : (I v2 39).toInt = -1 := by rw [f.2.2.1 v2 12 39 kv2 (by decide) (by decide)]; exact hsh
  have hak := AK_fr f wo kuF kv2 kuS luS hru62 ku62 (by decide) hak
  have hm0 := MAI_fr wo hpc.2.2.2.1 hpc.2.2.2.2.1 hm1 f (by decide) (by decide) hm0
  have hp0 := PR_same (EQC_fr f hpc (by decide)) (EQM_fr f kv2 hpm (by decide)) hp0
  have hk2 : KP2 Z I uS u62 (I v2 0).toInt.toNat := by rw [(f.2.2.1 v2 12 0 kv2 (by decide) (by decide))]; exact KP2_fr f wo.1 kuS luS kv2 hru62 ku62 (by decide) (by decide) (by decide) hk2
  have hs0 := ARr_same (f.2.2.2 uF 8 1 uX kuF hruX (by rw [kuX.2]; rfl) rfl (by decide)) (f.2.2.2 v2 12 2 uY kv2 hruY (by rw [kuY.2]; rfl) rfl (by decide)) (congrArg Int32.toInt (f.2.2.1 v2 12 0 kv2 (by decide) (by decide))) hs0
  have hc0 := KC_fr f wo.1 kuS luS kv2 hru62 ku62 (by decide) (by decide) (by decide) (congrArg Int32.toInt (f.2.2.1 v2 12 0 kv2 (by decide) (by decide))) hc0
  have hs9 := ARr_same (f.2.2.2 uF 8 0 uR kuF hruR (by rw [kuR.2]; rfl) rfl (by decide)) (f.2.2.2 v2 12 1 vR kv2 hrvR (by rw [kvR.2]; rfl) rfl (by decide)) (congrArg Int32.toInt (f.2.2.1 v2 12 0 kv2 (by decide) (by decide))) hs9
  have hv0 := PRr_fr f kv1 kuA (eMf f kv2 hruV kuV rfl (by decide)) (by decide) (by decide) hv0
  have hk := HK_fr f kuS kv2 hruK kuK hruC kuC (by decide) (by decide) (by decide) (by decide) hk
  have hx := TBr_fr f kuT hruB kuB kv2 hruM kuM (by decide) (by decide) (by decide) (by decide) hx
  have ea226 := congrArg Int32.toInt (f.2.2.1 uF 8 9 kuF (by decide) (by decide))
  have ea227 := congrArg Int32.toInt (f.2.2.1 v2 12 0 kv2 (by decide) (by decide))
  have ea228 := congrArg Int32.toInt (f.2.2.1 v2 12 7 kv2 (by decide) (by decide))
  have ea229 := congrArg Int32.toInt (f.2.2.1 v1 11 4 kv1 (by decide) (by decide))
  have ea230 := congrArg Int32.toInt (f.2.2.1 v2 12 8 kv2 (by decide) (by decide))
  have hm1 := (f.2.1 uP 4 1 hpc.2.2.2.1 (by decide) (by decide)).trans hm1
  have hpc := PCs_x f.1 (fun a c j ka hc => f.2.1 a c j ka (by omega) (by omega)) kv1 hpc
  have hpm := PMs_x f.1 (fun j hj => f.2.1 v2 12 j kv2 (by omega) (by omega)) hpm
  have hru62 := (f.2.1 v2 12 62 kv2 (by decide) (by decide)).trans hru62
  have ku62 := (f.1 _ _ ku62).1
  have hruX := (f.2.1 uF 8 1 kuF (by decide) (by decide)).trans hruX
  have kuX := (f.1 _ _ kuX).1
  have hruY := (f.2.1 v2 12 2 kv2 (by decide) (by decide)).trans hruY
  have kuY := (f.1 _ _ kuY).1
  have hruR := (f.2.1 uF 8 0 kuF (by decide) (by decide)).trans hruR
  have kuR := (f.1 _ _ kuR).1
  have hrvR := (f.2.1 v2 12 1 kv2 (by decide) (by decide)).trans hrvR
  have kvR := (f.1 _ _ kvR).1
  have hruA := (f.2.1 v1 11 3 kv1 (by decide) (by decide)).trans hruA
  have kuA := (f.1 _ _ kuA).1
  have hruV := (f.2.1 v2 12 13 kv2 (by decide) (by decide)).trans hruV
  have kuV := (f.1 _ _ kuV).1
  have hruS := (f.2.1 v1 11 8 kv1 (by decide) (by decide)).trans hruS
  have luS := (f.1 _ _ kuS).2.trans luS
  have kuS := (f.1 _ _ kuS).1
  have hruK := (f.2.1 v2 12 63 kv2 (by decide) (by decide)).trans hruK
  have kuK := (f.1 _ _ kuK).1
  have hruC := (f.2.1 v2 12 64 kv2 (by decide) (by decide)).trans hruC
  have kuC := (f.1 _ _ kuC).1
  have hruB := (f.2.1 uT 10 0 kuT (by decide) (by decide)).trans hruB
  have hruM := (f.2.1 v2 12 18 kv2 (by decide) (by decide)).trans hruM
  have kuB := (f.1 _ _ kuB).1
  have kuM := (f.1 _ _ kuM).1
  have hruT := (f.2.1 v1 11 0 kv1 (by decide) (by decide)).trans hruT
  have kuT := (f.1 _ _ kuT).1
  have hruF := (f.2.1 v1 11 2 kv1 (by decide) (by decide)).trans hruF
  have kuF := (f.1 _ _ kuF).1
  have hl : jlen Z v3 = 1 := (f.1 _ _ kv3).2.trans hl
  have kv1 := (f.1 _ _ kv1).1
  have kv2 := (f.1 _ _ kv2).1
  have kv3 := (f.1 _ _ kv3).1
  refine ⟨vi_of (i_add rfl (show (1 : Int32).toInt = 1 from rfl) (by omega) (by omega)) (by omega) (by omega), ?_⟩
  have wo := w
  refine s12_X12_breaks w bd v2 _ kv2 uV hruV  (fun r2 Z I L w bd f cp p2 => ?_)
  have ht : (I v1 4).toInt + (T : Int) = 6 := by rw [f.2.2.1 v1 11 4 kv1 (by decide) (by decide)]; exact ht
  have ha0 := ARr_same (f.2.2.2 uF 8 2 uQ kuF hak.1 (by rw [hak.2.1.2]; rfl) rfl (by decide)) (f.2.2.2 v2 12 3 vQ kv2 hak.2.2.1 (by rw [hak.2.2.2.1.2]; rfl) rfl (by decide)) (congrArg Int32.toInt (f.2.2.1 v2 12 0 kv2 (by decide) (by decide))) ha0
  have hwi := WI_fr f kuF kv2 (by decide) hwi
  have hlb := LB_fr f wo kuF kv2 (by decide) hlb
  have hfb := FB_fr f kuF kv2 (by decide) hfb
  have hpb := PB_fr f kv1 kuA kv2 (by decide) hpb
  have hsh : (I v2 39).toInt = -1 := by rw [f.2.2.1 v2 12 39 kv2 (by decide) (by decide)]; exact hsh
  have hak := AK_fr f wo kuF kv2 kuS luS hru62 ku62 (by decide) hak
  have hm0 := MAI_fr wo hpc.2.2.2.1 hpc.2.2.2.2.1 hm1 f (by decide) (by decide) hm0
  have hp0 := PR_same (EQC_fr f hpc (by decide)) (EQM_fr f kv2 hpm (by decide)) hp0
  have hk2 : KP2 Z I uS u62 (I v2 0).toInt.toNat := by rw [(f.2.2.1 v2 12 0 kv2 (by decide) (by decide))]; exact KP2_fr f wo.1 kuS luS kv2 hru62 ku62 (by decide) (by decide) (by decide) hk2
  have hs0 := ARr_same (f.2.2.2 uF 8 1 uX kuF hruX (by rw [kuX.2]; rfl) rfl (by decide)) (f.2.2.2 v2 12 2 uY kv2 hruY (by rw [kuY.2]; rfl) rfl (by decide)) (congrArg Int32.toInt (f.2.2.1 v2 12 0 kv2 (by decide) (by decide))) hs0
  have hc0 := KC_fr f wo.1 kuS luS kv2 hru62 ku62 (by decide) (by decide) (by decide) (congrArg Int32.toInt (f.2.2.1 v2 12 0 kv2 (by decide) (by decide))) hc0
  have hs9 := ARr_same (f.2.2.2 uF 8 0 uR kuF hruR (by rw [kuR.2]; rfl) rfl (by decide)) (f.2.2.2 v2 12 1 vR kv2 hrvR (by rw [kvR.2]; rfl) rfl (by decide)) (congrArg Int32.toInt (f.2.2.1 v2 12 0 kv2 (by decide) (by decide))) hs9
  have hv0 := PRr_fr f kv1 kuA p2 (by decide) (by decide) hv0
  have hk := HK_fr f kuS kv2 hruK kuK hruC kuC (by decide) (by decide) (by decide) (by decide) hk
  have hx := TBr_fr f kuT hruB kuB kv2 hruM kuM (by decide) (by decide) (by decide) (by decide) hx
  have ea231 := congrArg Int32.toInt (f.2.2.1 uF 8 9 kuF (by decide) (by decide))
  have ea232 := congrArg Int32.toInt (f.2.2.1 v2 12 0 kv2 (by decide) (by decide))
  have ea233 := congrArg Int32.toInt (f.2.2.1 v2 12 7 kv2 (by decide) (by decide))
  have ea234 := congrArg Int32.toInt (f.2.2.1 v1 11 4 kv1 (by decide) (by decide))
  have ea235 := congrArg Int32.toInt (f.2.2.1 v2 12 8 kv2 (by decide) (by decide))
  have hm1 := (f.2.1 uP 4 1 hpc.2.2.2.1 (by decide) (by decide)).trans hm1
  have hpc := PCs_x f.1 (fun a c j ka hc => f.2.1 a c j ka (by omega) (by omega)) kv1 hpc
  have hpm := PMs_x f.1 (fun j hj => f.2.1 v2 12 j kv2 (by omega) (by omega)) hpm
  have hru62 := (f.2.1 v2 12 62 kv2 (by decide) (by decide)).trans hru62
  have ku62 := (f.1 _ _ ku62).1
  have hruX := (f.2.1 uF 8 1 kuF (by decide) (by decide)).trans hruX
  have kuX := (f.1 _ _ kuX).1
  have hruY := (f.2.1 v2 12 2 kv2 (by decide) (by decide)).trans hruY
  have kuY := (f.1 _ _ kuY).1
  have hruR := (f.2.1 uF 8 0 kuF (by decide) (by decide)).trans hruR
  have kuR := (f.1 _ _ kuR).1
  have hrvR := (f.2.1 v2 12 1 kv2 (by decide) (by decide)).trans hrvR
  have kvR := (f.1 _ _ kvR).1
  have hruA := (f.2.1 v1 11 3 kv1 (by decide) (by decide)).trans hruA
  have kuA := (f.1 _ _ kuA).1
  have hruV := (f.2.1 v2 12 13 kv2 (by decide) (by decide)).trans hruV
  have kuV := (f.1 _ _ kuV).1
  have hruS := (f.2.1 v1 11 8 kv1 (by decide) (by decide)).trans hruS
  have luS := (f.1 _ _ kuS).2.trans luS
  have kuS := (f.1 _ _ kuS).1
  have hruK := (f.2.1 v2 12 63 kv2 (by decide) (by decide)).trans hruK
  have kuK := (f.1 _ _ kuK).1
  have hruC := (f.2.1 v2 12 64 kv2 (by decide) (by decide)).trans hruC
  have kuC := (f.1 _ _ kuC).1
  have hruB := (f.2.1 uT 10 0 kuT (by decide) (by decide)).trans hruB
  have hruM := (f.2.1 v2 12 18 kv2 (by decide) (by decide)).trans hruM
  have kuB := (f.1 _ _ kuB).1
  have kuM := (f.1 _ _ kuM).1
  have hruT := (f.2.1 v1 11 0 kv1 (by decide) (by decide)).trans hruT
  have kuT := (f.1 _ _ kuT).1
  have hruF := (f.2.1 v1 11 2 kv1 (by decide) (by decide)).trans hruF
  have kuF := (f.1 _ _ kuF).1
  have hl : jlen Z v3 = 1 := (f.1 _ _ kv3).2.trans hl
  have kv1 := (f.1 _ _ kv1).1
  have kv2 := (f.1 _ _ kv2).1
  have kv3 := (f.1 _ _ kv3).1
  unfold f_L_law_b1760
  intro x ex
  have tx : x.toInt = v4.toInt + 6 := by rw [ex]; exact i_add rfl (show (6 : Int32).toInt = 6 from rfl) (by omega) (by omega)
  exact hK _ _ _ x ex (LInv_mk (Z := Z) (I := I) T uT uB uM uF uS uK uC uA uV uX uY uR vR uP x0 x2 u5 u53 u54 u62 x1 uQ vQ uW vW t30 t29 u5c t6 t9 t10 t11 t12 ⟨w, bd, kv1, kv2, kv3, hl, ht, hruT, kuT, hruB, kuB, hruM⟩ ⟨kuM, hx, hruF, kuF, (by omega), (by omega), (by omega), hruS, kuS, luS, hruK, kuK⟩ ⟨hruC, kuC, hk, hruA, kuA, hruV, kuV, hv0, hruX, kuX, hruY, kuY⟩ ⟨hruR, kuR, hrvR, kvR, hs0, hc0, hs9, hpc, hpm, hru62, ku62, hp0⟩ ⟨hk2, hm1, hm0, hak, ha0, hwi, hlb, hfb, hpb, hsh⟩)
set_option maxHeartbeats 4000000 in
set_option maxRecDepth 100000 in
theorem k_b1159 {xs : Nat → Int32} {Ls : Nat} {B : Nat × Nat} {K : Nat → Nat → Nat → Int32 → jZ → jI → jL → Prop} {v1 v2 v3 : Nat} {v4 : Int32} {Z : jZ} {I : jI} {L : jL} {T uT uB uM uF uS uK uC uA uV uX uY uR vR uP x0 x2 u5 u53 u54 u62 x1 uQ vQ uW vW t30 t29 u5c t6 t9 t10 t11 t12 : Nat} (g0 : LG0 B v1 v2 v3 T uT uB uM Z I) (g1 : LG1 v1 v2 v4 uT uB uM uF uS uK Z I) (g2 : LG2 v1 v2 uF uS uK uC uA uV uX uY Z I) (g3 : LG3 v1 v2 uF uS uX uY uR vR uP x0 x2 u5 u53 u54 u62 Z I) (g4 : LG4 v1 v2 uF uS uA uP x0 u62 x1 uQ vQ uW vW t30 t29 u5c t6 t9 t10 t11 t12 Z I) (hv : 0 ≤ v4.toInt ∧ v4.toInt + 6 ≤ (Ls : Int) ∧ (Ls : Int) ≤ 3072) (hK : ∀ (Z : jZ) (I : jI) (L : jL) (x : Int32), x = v4 + 6 → LInv B v1 v2 v3 x Z I → K v1 v2 v3 x Z I L) : f_L_law_b1159 xs Ls B K v1 v2 v3 v4 Z I L := by
  obtain ⟨w, bd, kv1, kv2, kv3, hl, ht, hruT, kuT, hruB, kuB, hruM⟩ := g0
  obtain ⟨kuM, hx, hruF, kuF, hx1, hx2, hx3, hruS, kuS, luS, hruK, kuK⟩ := g1
  obtain ⟨hruC, kuC, hk, hruA, kuA, hruV, kuV, hv0, hruX, kuX, hruY, kuY⟩ := g2
  obtain ⟨hruR, kuR, hrvR, kvR, hs0, hc0, hs9, hpc, hpm, hru62, ku62, hp0⟩ := g3
  obtain ⟨hk2, hm1, hm0, hak, ha0, hwi, hlb, hfb, hpb, hsh⟩ := g4
  unfold f_L_law_b1159
  have wo := w
  refine s_X11_all w bd v1 kv1  (fun r1 Z I L w bd f cp => ?_)
  have ht : (I v1 4).toInt + (T : Int) = 6 := by rw [f.2.2.1 v1 11 4 kv1 (by decide) (by decide)]; exact ht
  have ha0 := ARr_same (f.2.2.2 uF 8 2 uQ kuF hak.1 (by rw [hak.2.1.2]; rfl) rfl (by decide)) (f.2.2.2 v2 12 3 vQ kv2 hak.2.2.1 (by rw [hak.2.2.2.1.2]; rfl) rfl (by decide)) (congrArg Int32.toInt (f.2.2.1 v2 12 0 kv2 (by decide) (by decide))) ha0
  have hwi := WI_fr f kuF kv2 (by decide) hwi
  have hlb := LB_fr f wo kuF kv2 (by decide) hlb
  have hfb := FB_fr f kuF kv2 (by decide) hfb
  have hpb := PB_fr f kv1 kuA kv2 (by decide) hpb
  have hsh : (I v2 39).toInt = -1 := by rw [f.2.2.1 v2 12 39 kv2 (by decide) (by decide)]; exact hsh
  have hak := AK_fr f wo kuF kv2 kuS luS hru62 ku62 (by decide) hak
  have hm0 := MAI_fr wo hpc.2.2.2.1 hpc.2.2.2.2.1 hm1 f (by decide) (by decide) hm0
  have hp0 := PR_same (EQC_fr f hpc (by decide)) (EQM_fr f kv2 hpm (by decide)) hp0
  have hk2 : KP2 Z I uS u62 (I v2 0).toInt.toNat := by rw [(f.2.2.1 v2 12 0 kv2 (by decide) (by decide))]; exact KP2_fr f wo.1 kuS luS kv2 hru62 ku62 (by decide) (by decide) (by decide) hk2
  have hs0 := ARr_same (f.2.2.2 uF 8 1 uX kuF hruX (by rw [kuX.2]; rfl) rfl (by decide)) (f.2.2.2 v2 12 2 uY kv2 hruY (by rw [kuY.2]; rfl) rfl (by decide)) (congrArg Int32.toInt (f.2.2.1 v2 12 0 kv2 (by decide) (by decide))) hs0
  have hc0 := KC_fr f wo.1 kuS luS kv2 hru62 ku62 (by decide) (by decide) (by decide) (congrArg Int32.toInt (f.2.2.1 v2 12 0 kv2 (by decide) (by decide))) hc0
  have hs9 := ARr_same (f.2.2.2 uF 8 0 uR kuF hruR (by rw [kuR.2]; rfl) rfl (by decide)) (f.2.2.2 v2 12 1 vR kv2 hrvR (by rw [kvR.2]; rfl) rfl (by decide)) (congrArg Int32.toInt (f.2.2.1 v2 12 0 kv2 (by decide) (by decide))) hs9
  have hv0 := PRr_fr f kv1 kuA (eMf f kv2 hruV kuV rfl (by decide)) (by decide) (by decide) hv0
  have hk := HK_fr f kuS kv2 hruK kuK hruC kuC (by decide) (by decide) (by decide) (by decide) hk
  have hx := TBr_fr f kuT hruB kuB kv2 hruM kuM (by decide) (by decide) (by decide) (by decide) hx
  have ea236 := congrArg Int32.toInt (f.2.2.1 uF 8 9 kuF (by decide) (by decide))
  have ea237 := congrArg Int32.toInt (f.2.2.1 v2 12 0 kv2 (by decide) (by decide))
  have ea238 := congrArg Int32.toInt (f.2.2.1 v2 12 7 kv2 (by decide) (by decide))
  have ea239 := congrArg Int32.toInt (f.2.2.1 v1 11 4 kv1 (by decide) (by decide))
  have ea240 := congrArg Int32.toInt (f.2.2.1 v2 12 8 kv2 (by decide) (by decide))
  have hm1 := (f.2.1 uP 4 1 hpc.2.2.2.1 (by decide) (by decide)).trans hm1
  have hpc := PCs_x f.1 (fun a c j ka hc => f.2.1 a c j ka (by omega) (by omega)) kv1 hpc
  have hpm := PMs_x f.1 (fun j hj => f.2.1 v2 12 j kv2 (by omega) (by omega)) hpm
  have hru62 := (f.2.1 v2 12 62 kv2 (by decide) (by decide)).trans hru62
  have ku62 := (f.1 _ _ ku62).1
  have hruX := (f.2.1 uF 8 1 kuF (by decide) (by decide)).trans hruX
  have kuX := (f.1 _ _ kuX).1
  have hruY := (f.2.1 v2 12 2 kv2 (by decide) (by decide)).trans hruY
  have kuY := (f.1 _ _ kuY).1
  have hruR := (f.2.1 uF 8 0 kuF (by decide) (by decide)).trans hruR
  have kuR := (f.1 _ _ kuR).1
  have hrvR := (f.2.1 v2 12 1 kv2 (by decide) (by decide)).trans hrvR
  have kvR := (f.1 _ _ kvR).1
  have hruA := (f.2.1 v1 11 3 kv1 (by decide) (by decide)).trans hruA
  have kuA := (f.1 _ _ kuA).1
  have hruV := (f.2.1 v2 12 13 kv2 (by decide) (by decide)).trans hruV
  have kuV := (f.1 _ _ kuV).1
  have hruS := (f.2.1 v1 11 8 kv1 (by decide) (by decide)).trans hruS
  have luS := (f.1 _ _ kuS).2.trans luS
  have kuS := (f.1 _ _ kuS).1
  have hruK := (f.2.1 v2 12 63 kv2 (by decide) (by decide)).trans hruK
  have kuK := (f.1 _ _ kuK).1
  have hruC := (f.2.1 v2 12 64 kv2 (by decide) (by decide)).trans hruC
  have kuC := (f.1 _ _ kuC).1
  have hruB := (f.2.1 uT 10 0 kuT (by decide) (by decide)).trans hruB
  have hruM := (f.2.1 v2 12 18 kv2 (by decide) (by decide)).trans hruM
  have kuB := (f.1 _ _ kuB).1
  have kuM := (f.1 _ _ kuM).1
  have hruT := (f.2.1 v1 11 0 kv1 (by decide) (by decide)).trans hruT
  have kuT := (f.1 _ _ kuT).1
  have hruF := (f.2.1 v1 11 2 kv1 (by decide) (by decide)).trans hruF
  have kuF := (f.1 _ _ kuF).1
  have hl : jlen Z v3 = 1 := (f.1 _ _ kv3).2.trans hl
  have kv1 := (f.1 _ _ kv1).1
  have kv2 := (f.1 _ _ kv2).1
  have kv3 := (f.1 _ _ kv3).1
  have wo := w
  refine s_X12_all w bd v2 kv2  (fun r2 Z I L w bd f cp => ?_)
  have ht : (I v1 4).toInt + (T : Int) = 6 := by rw [f.2.2.1 v1 11 4 kv1 (by decide) (by decide)]; exact ht
  have ha0 := ARr_same (f.2.2.2 uF 8 2 uQ kuF hak.1 (by rw [hak.2.1.2]; rfl) rfl (by decide)) (f.2.2.2 v2 12 3 vQ kv2 hak.2.2.1 (by rw [hak.2.2.2.1.2]; rfl) rfl (by decide)) (congrArg Int32.toInt (f.2.2.1 v2 12 0 kv2 (by decide) (by decide))) ha0
  have hwi := WI_fr f kuF kv2 (by decide) hwi
  have hlb := LB_fr f wo kuF kv2 (by decide) hlb
  have hfb := FB_fr f kuF kv2 (by decide) hfb
  have hpb := PB_fr f kv1 kuA kv2 (by decide) hpb
  have hsh : (I v2 39).toInt = -1 := by rw [f.2.2.1 v2 12 39 kv2 (by decide) (by decide)]; exact hsh
  have hak := AK_fr f wo kuF kv2 kuS luS hru62 ku62 (by decide) hak
  have hm0 := MAI_fr wo hpc.2.2.2.1 hpc.2.2.2.2.1 hm1 f (by decide) (by decide) hm0
  have hp0 := PR_same (EQC_fr f hpc (by decide)) (EQM_fr f kv2 hpm (by decide)) hp0
  have hk2 : KP2 Z I uS u62 (I v2 0).toInt.toNat := by rw [(f.2.2.1 v2 12 0 kv2 (by decide) (by decide))]; exact KP2_fr f wo.1 kuS luS kv2 hru62 ku62 (by decide) (by decide) (by decide) hk2
  have hs0 := ARr_same (f.2.2.2 uF 8 1 uX kuF hruX (by rw [kuX.2]; rfl) rfl (by decide)) (f.2.2.2 v2 12 2 uY kv2 hruY (by rw [kuY.2]; rfl) rfl (by decide)) (congrArg Int32.toInt (f.2.2.1 v2 12 0 kv2 (by decide) (by decide))) hs0
  have hc0 := KC_fr f wo.1 kuS luS kv2 hru62 ku62 (by decide) (by decide) (by decide) (congrArg Int32.toInt (f.2.2.1 v2 12 0 kv2 (by decide) (by decide))) hc0
  have hs9 := ARr_same (f.2.2.2 uF 8 0 uR kuF hruR (by rw [kuR.2]; rfl) rfl (by decide)) (f.2.2.2 v2 12 1 vR kv2 hrvR (by rw [kvR.2]; rfl) rfl (by decide)) (congrArg Int32.toInt (f.2.2.1 v2 12 0 kv2 (by decide) (by decide))) hs9
  have hv0 := PRr_fr f kv1 kuA (eMf f kv2 hruV kuV rfl (by decide)) (by decide) (by decide) hv0
  have hk := HK_fr f kuS kv2 hruK kuK hruC kuC (by decide) (by decide) (by decide) (by decide) hk
  have hx := TBr_fr f kuT hruB kuB kv2 hruM kuM (by decide) (by decide) (by decide) (by decide) hx
  have ea241 := congrArg Int32.toInt (f.2.2.1 uF 8 9 kuF (by decide) (by decide))
  have ea242 := congrArg Int32.toInt (f.2.2.1 v2 12 0 kv2 (by decide) (by decide))
  have ea243 := congrArg Int32.toInt (f.2.2.1 v2 12 7 kv2 (by decide) (by decide))
  have ea244 := congrArg Int32.toInt (f.2.2.1 v1 11 4 kv1 (by decide) (by decide))
  have ea245 := congrArg Int32.toInt (f.2.2.1 v2 12 8 kv2 (by decide) (by decide))
  have hm1 := (f.2.1 uP 4 1 hpc.2.2.2.1 (by decide) (by decide)).trans hm1
  have hpc := PCs_x f.1 (fun a c j ka hc => f.2.1 a c j ka (by omega) (by omega)) kv1 hpc
  have hpm := PMs_x f.1 (fun j hj => f.2.1 v2 12 j kv2 (by omega) (by omega)) hpm
  have hru62 := (f.2.1 v2 12 62 kv2 (by decide) (by decide)).trans hru62
  have ku62 := (f.1 _ _ ku62).1
  have hruX := (f.2.1 uF 8 1 kuF (by decide) (by decide)).trans hruX
  have kuX := (f.1 _ _ kuX).1
  have hruY := (f.2.1 v2 12 2 kv2 (by decide) (by decide)).trans hruY
  have kuY := (f.1 _ _ kuY).1
  have hruR := (f.2.1 uF 8 0 kuF (by decide) (by decide)).trans hruR
  have kuR := (f.1 _ _ kuR).1
  have hrvR := (f.2.1 v2 12 1 kv2 (by decide) (by decide)).trans hrvR
  have kvR := (f.1 _ _ kvR).1
  have hruA := (f.2.1 v1 11 3 kv1 (by decide) (by decide)).trans hruA
  have kuA := (f.1 _ _ kuA).1
  have hruV := (f.2.1 v2 12 13 kv2 (by decide) (by decide)).trans hruV
  have kuV := (f.1 _ _ kuV).1
  have hruS := (f.2.1 v1 11 8 kv1 (by decide) (by decide)).trans hruS
  have luS := (f.1 _ _ kuS).2.trans luS
  have kuS := (f.1 _ _ kuS).1
  have hruK := (f.2.1 v2 12 63 kv2 (by decide) (by decide)).trans hruK
  have kuK := (f.1 _ _ kuK).1
  have hruC := (f.2.1 v2 12 64 kv2 (by decide) (by decide)).trans hruC
  have kuC := (f.1 _ _ kuC).1
  have hruB := (f.2.1 uT 10 0 kuT (by decide) (by decide)).trans hruB
  have hruM := (f.2.1 v2 12 18 kv2 (by decide) (by decide)).trans hruM
  have kuB := (f.1 _ _ kuB).1
  have kuM := (f.1 _ _ kuM).1
  have hruT := (f.2.1 v1 11 0 kv1 (by decide) (by decide)).trans hruT
  have kuT := (f.1 _ _ kuT).1
  have hruF := (f.2.1 v1 11 2 kv1 (by decide) (by decide)).trans hruF
  have kuF := (f.1 _ _ kuF).1
  have hl : jlen Z v3 = 1 := (f.1 _ _ kv3).2.trans hl
  have kv1 := (f.1 _ _ kv1).1
  have kv2 := (f.1 _ _ kv2).1
  have kv3 := (f.1 _ _ kv3).1
  unfold f_L_law_b1760
  intro x ex
  have tx : x.toInt = v4.toInt + 6 := by rw [ex]; exact i_add rfl (show (6 : Int32).toInt = 6 from rfl) (by omega) (by omega)
  exact hK _ _ _ x ex (LInv_mk (Z := Z) (I := I) T uT uB uM uF uS uK uC uA uV uX uY uR vR uP x0 x2 u5 u53 u54 u62 x1 uQ vQ uW vW t30 t29 u5c t6 t9 t10 t11 t12 ⟨w, bd, kv1, kv2, kv3, hl, ht, hruT, kuT, hruB, kuB, hruM⟩ ⟨kuM, hx, hruF, kuF, (by omega), (by omega), (by omega), hruS, kuS, luS, hruK, kuK⟩ ⟨hruC, kuC, hk, hruA, kuA, hruV, kuV, hv0, hruX, kuX, hruY, kuY⟩ ⟨hruR, kuR, hrvR, kvR, hs0, hc0, hs9, hpc, hpm, hru62, ku62, hp0⟩ ⟨hk2, hm1, hm0, hak, ha0, hwi, hlb, hfb, hpb, hsh⟩)
set_option maxHeartbeats 4000000 in
set_option maxRecDepth 100000 in
theorem k_b1172 {xs : Nat → Int32} {Ls : Nat} {B : Nat × Nat} {K : Nat → Nat → Nat → Int32 → jZ → jI → jL → Prop} {v1 v2 v3 : Nat} {v4 : Int32} {Z : jZ} {I : jI} {L : jL} {T uT uB uM uF uS uK uC uA uV uX uY uR vR uP x0 x2 u5 u53 u54 u62 x1 uQ vQ uW vW t30 t29 u5c t6 t9 t10 t11 t12 : Nat} (g0 : LG0 B v1 v2 v3 T uT uB uM Z I) (g1 : LG1 v1 v2 v4 uT uB uM uF uS uK Z I) (g2 : LG2 v1 v2 uF uS uK uC uA uV uX uY Z I) (g3 : LG3 v1 v2 uF uS uX uY uR vR uP x0 x2 u5 u53 u54 u62 Z I) (g4 : LG4 v1 v2 uF uS uA uP x0 u62 x1 uQ vQ uW vW t30 t29 u5c t6 t9 t10 t11 t12 Z I) (hv : 0 ≤ v4.toInt ∧ v4.toInt + 6 ≤ (Ls : Int) ∧ (Ls : Int) ≤ 3072) (hK : ∀ (Z : jZ) (I : jI) (L : jL) (x : Int32), x = v4 + 6 → LInv B v1 v2 v3 x Z I → K v1 v2 v3 x Z I L) : f_L_law_b1172 xs Ls B K v1 v2 v3 v4 Z I L := by
  obtain ⟨w, bd, kv1, kv2, kv3, hl, ht, hruT, kuT, hruB, kuB, hruM⟩ := g0
  obtain ⟨kuM, hx, hruF, kuF, hx1, hx2, hx3, hruS, kuS, luS, hruK, kuK⟩ := g1
  obtain ⟨hruC, kuC, hk, hruA, kuA, hruV, kuV, hv0, hruX, kuX, hruY, kuY⟩ := g2
  obtain ⟨hruR, kuR, hrvR, kvR, hs0, hc0, hs9, hpc, hpm, hru62, ku62, hp0⟩ := g3
  obtain ⟨hk2, hm1, hm0, hak, ha0, hwi, hlb, hfb, hpb, hsh⟩ := g4
  unfold f_L_law_b1172
  refine ⟨vi_of (i_add rfl (show (1 : Int32).toInt = 1 from rfl) (by omega) (by omega)) (by omega) (by omega), ?_⟩
  have wo := w
  have n24 : 0 ≤ (I v2 0).toInt ∧ (I v2 0).toInt ≤ 24 := w.fld 12 0 kv2 (by decide)
  refine s13_X11_whole w bd v1 _ kv1 uF hruF uX hruX  (fun r1 Z I L w bd f cp p1 => ?_)
  have ht : (I v1 4).toInt + (T : Int) = 6 := by rw [f.2.2.1 v1 11 4 kv1 (by decide) (by decide)]; exact ht
  have ha0 := ARr_same (f.2.2.2 uF 8 2 uQ kuF hak.1 (by rw [hak.2.1.2]; rfl) rfl (by decide)) (f.2.2.2 v2 12 3 vQ kv2 hak.2.2.1 (by rw [hak.2.2.2.1.2]; rfl) rfl (by decide)) (congrArg Int32.toInt (f.2.2.1 v2 12 0 kv2 (by decide) (by decide))) ha0
  have hwi := WI_fr f kuF kv2 (by decide) hwi
  have hlb := LB_fr f wo kuF kv2 (by decide) hlb
  have hfb := FB_fr f kuF kv2 (by decide) hfb
  have hpb := PB_fr f kv1 kuA kv2 (by decide) hpb
  have hsh : (I v2 39).toInt = -1 := by rw [f.2.2.1 v2 12 39 kv2 (by decide) (by decide)]; exact hsh
  have hak := AK_fr f wo kuF kv2 kuS luS hru62 ku62 (by decide) hak
  have hm0 := MAI_fr wo hpc.2.2.2.1 hpc.2.2.2.2.1 hm1 f (by decide) (by decide) hm0
  have hp0 := PR_same (EQC_fr f hpc (by decide)) (EQM_fr f kv2 hpm (by decide)) hp0
  have hk2 : KP2 Z I uS u62 (I v2 0).toInt.toNat := by rw [(f.2.2.1 v2 12 0 kv2 (by decide) (by decide))]; exact KP2_fr f wo.1 kuS luS kv2 hru62 ku62 (by decide) (by decide) (by decide) hk2
  have hsA := hs0
  have hcA := hc0
  have wk := wo
  have fk := f
  have e01 := (f.2.2.1 v2 12 0 kv2 (by decide) (by decide))
  have eY1 : I uY = _ := (f.2.2.2 v2 12 2 uY kv2 hruY (by rw [kuY.2]; rfl) rfl (by decide))
  have hsR := hs9
  have eR1 : I vR = _ := (f.2.2.2 v2 12 1 vR kv2 hrvR (by rw [kvR.2]; rfl) rfl (by decide))
  have hs0 := ARr_same p1 (f.2.2.2 v2 12 2 uY kv2 hruY (by rw [kuY.2]; rfl) rfl (by decide)) (congrArg Int32.toInt (f.2.2.1 v2 12 0 kv2 (by decide) (by decide))) hs0
  have hc0 := KC_fr f wo.1 kuS luS kv2 hru62 ku62 (by decide) (by decide) (by decide) (congrArg Int32.toInt (f.2.2.1 v2 12 0 kv2 (by decide) (by decide))) hc0
  have hs9 := ARr_same (f.2.2.2 uF 8 0 uR kuF hruR (by rw [kuR.2]; rfl) rfl (by decide)) (f.2.2.2 v2 12 1 vR kv2 hrvR (by rw [kvR.2]; rfl) rfl (by decide)) (congrArg Int32.toInt (f.2.2.1 v2 12 0 kv2 (by decide) (by decide))) hs9
  have hv0 := PRr_fr f kv1 kuA (eMf f kv2 hruV kuV rfl (by decide)) (by decide) (by decide) hv0
  have hk := HK_fr f kuS kv2 hruK kuK hruC kuC (by decide) (by decide) (by decide) (by decide) hk
  have hx := TBr_fr f kuT hruB kuB kv2 hruM kuM (by decide) (by decide) (by decide) (by decide) hx
  have ea246 := congrArg Int32.toInt (f.2.2.1 uF 8 9 kuF (by decide) (by decide))
  have ea247 := congrArg Int32.toInt (f.2.2.1 v2 12 0 kv2 (by decide) (by decide))
  have ea248 := congrArg Int32.toInt (f.2.2.1 v2 12 7 kv2 (by decide) (by decide))
  have ea249 := congrArg Int32.toInt (f.2.2.1 v1 11 4 kv1 (by decide) (by decide))
  have ea250 := congrArg Int32.toInt (f.2.2.1 v2 12 8 kv2 (by decide) (by decide))
  have hm1 := (f.2.1 uP 4 1 hpc.2.2.2.1 (by decide) (by decide)).trans hm1
  have hpc := PCs_x f.1 (fun a c j ka hc => f.2.1 a c j ka (by omega) (by omega)) kv1 hpc
  have hpm := PMs_x f.1 (fun j hj => f.2.1 v2 12 j kv2 (by omega) (by omega)) hpm
  have hru62 := (f.2.1 v2 12 62 kv2 (by decide) (by decide)).trans hru62
  have ku62 := (f.1 _ _ ku62).1
  have hruX := (f.2.1 uF 8 1 kuF (by decide) (by decide)).trans hruX
  have kuX := (f.1 _ _ kuX).1
  have hruY := (f.2.1 v2 12 2 kv2 (by decide) (by decide)).trans hruY
  have kuY := (f.1 _ _ kuY).1
  have hruR := (f.2.1 uF 8 0 kuF (by decide) (by decide)).trans hruR
  have kuR := (f.1 _ _ kuR).1
  have hrvR := (f.2.1 v2 12 1 kv2 (by decide) (by decide)).trans hrvR
  have kvR := (f.1 _ _ kvR).1
  have hruA := (f.2.1 v1 11 3 kv1 (by decide) (by decide)).trans hruA
  have kuA := (f.1 _ _ kuA).1
  have hruV := (f.2.1 v2 12 13 kv2 (by decide) (by decide)).trans hruV
  have kuV := (f.1 _ _ kuV).1
  have hruS := (f.2.1 v1 11 8 kv1 (by decide) (by decide)).trans hruS
  have luS := (f.1 _ _ kuS).2.trans luS
  have kuS := (f.1 _ _ kuS).1
  have hruK := (f.2.1 v2 12 63 kv2 (by decide) (by decide)).trans hruK
  have kuK := (f.1 _ _ kuK).1
  have hruC := (f.2.1 v2 12 64 kv2 (by decide) (by decide)).trans hruC
  have kuC := (f.1 _ _ kuC).1
  have hruB := (f.2.1 uT 10 0 kuT (by decide) (by decide)).trans hruB
  have hruM := (f.2.1 v2 12 18 kv2 (by decide) (by decide)).trans hruM
  have kuB := (f.1 _ _ kuB).1
  have kuM := (f.1 _ _ kuM).1
  have hruT := (f.2.1 v1 11 0 kv1 (by decide) (by decide)).trans hruT
  have kuT := (f.1 _ _ kuT).1
  have hruF := (f.2.1 v1 11 2 kv1 (by decide) (by decide)).trans hruF
  have kuF := (f.1 _ _ kuF).1
  have hl : jlen Z v3 = 1 := (f.1 _ _ kv3).2.trans hl
  have kv1 := (f.1 _ _ kv1).1
  have kv2 := (f.1 _ _ kv2).1
  have kv3 := (f.1 _ _ kv3).1
  refine ⟨vi_of (i_add rfl (show (1 : Int32).toInt = 1 from rfl) (by omega) (by omega)) (by omega) (by omega), ?_⟩
  have wo := w
  refine s13_X12_whole w bd v2 _ kv2 uY hruY  (fun r2 Z I L w bd f cp p2 => ?_)
  have ht : (I v1 4).toInt + (T : Int) = 6 := by rw [f.2.2.1 v1 11 4 kv1 (by decide) (by decide)]; exact ht
  have ha0 := ARr_same (f.2.2.2 uF 8 2 uQ kuF hak.1 (by rw [hak.2.1.2]; rfl) rfl (by decide)) (f.2.2.2 v2 12 3 vQ kv2 hak.2.2.1 (by rw [hak.2.2.2.1.2]; rfl) rfl (by decide)) (congrArg Int32.toInt (f.2.2.1 v2 12 0 kv2 (by decide) (by decide))) ha0
  have hwi := WI_fr f kuF kv2 (by decide) hwi
  have hlb := LB_fr f wo kuF kv2 (by decide) hlb
  have hfb := FB_fr f kuF kv2 (by decide) hfb
  have hpb := PB_fr f kv1 kuA kv2 (by decide) hpb
  have hsh : (I v2 39).toInt = -1 := by rw [f.2.2.1 v2 12 39 kv2 (by decide) (by decide)]; exact hsh
  have hak := AK_fr f wo kuF kv2 kuS luS hru62 ku62 (by decide) hak
  have hm0 := MAI_fr wo hpc.2.2.2.1 hpc.2.2.2.2.1 hm1 f (by decide) (by decide) hm0
  have hp0 := PR_same (EQC_fr f hpc (by decide)) (EQM_fr f kv2 hpm (by decide)) hp0
  have hk2 : KP2 Z I uS u62 (I v2 0).toInt.toNat := by rw [(f.2.2.1 v2 12 0 kv2 (by decide) (by decide))]; exact KP2_fr f wo.1 kuS luS kv2 hru62 ku62 (by decide) (by decide) (by decide) hk2
  have hs0 := ARr_same (f.2.2.2 uF 8 1 uX kuF hruX (by rw [kuX.2]; rfl) rfl (by decide)) p2 (congrArg Int32.toInt (f.2.2.1 v2 12 0 kv2 (by decide) (by decide))) hs0
  have hc0 := KC_fr f wo.1 kuS luS kv2 hru62 ku62 (by decide) (by decide) (by decide) (congrArg Int32.toInt (f.2.2.1 v2 12 0 kv2 (by decide) (by decide))) hc0
  have hs9 := ARr_same (f.2.2.2 uF 8 0 uR kuF hruR (by rw [kuR.2]; rfl) rfl (by decide)) (f.2.2.2 v2 12 1 vR kv2 hrvR (by rw [kvR.2]; rfl) rfl (by decide)) (congrArg Int32.toInt (f.2.2.1 v2 12 0 kv2 (by decide) (by decide))) hs9
  have hv0 := PRr_fr f kv1 kuA (eMf f kv2 hruV kuV rfl (by decide)) (by decide) (by decide) hv0
  have hk := HK_fr f kuS kv2 hruK kuK hruC kuC (by decide) (by decide) (by decide) (by decide) hk
  have hx := TBr_fr f kuT hruB kuB kv2 hruM kuM (by decide) (by decide) (by decide) (by decide) hx
  have ea251 := congrArg Int32.toInt (f.2.2.1 uF 8 9 kuF (by decide) (by decide))
  have ea252 := congrArg Int32.toInt (f.2.2.1 v2 12 0 kv2 (by decide) (by decide))
  have ea253 := congrArg Int32.toInt (f.2.2.1 v2 12 7 kv2 (by decide) (by decide))
  have ea254 := congrArg Int32.toInt (f.2.2.1 v1 11 4 kv1 (by decide) (by decide))
  have ea255 := congrArg Int32.toInt (f.2.2.1 v2 12 8 kv2 (by decide) (by decide))
  have hm1 := (f.2.1 uP 4 1 hpc.2.2.2.1 (by decide) (by decide)).trans hm1
  have hpc := PCs_x f.1 (fun a c j ka hc => f.2.1 a c j ka (by omega) (by omega)) kv1 hpc
  have hpm := PMs_x f.1 (fun j hj => f.2.1 v2 12 j kv2 (by omega) (by omega)) hpm
  have hru62 := (f.2.1 v2 12 62 kv2 (by decide) (by decide)).trans hru62
  have ku62 := (f.1 _ _ ku62).1
  have hruX := (f.2.1 uF 8 1 kuF (by decide) (by decide)).trans hruX
  have kuX := (f.1 _ _ kuX).1
  have hruY := (f.2.1 v2 12 2 kv2 (by decide) (by decide)).trans hruY
  have kuY := (f.1 _ _ kuY).1
  have hruR := (f.2.1 uF 8 0 kuF (by decide) (by decide)).trans hruR
  have kuR := (f.1 _ _ kuR).1
  have hrvR := (f.2.1 v2 12 1 kv2 (by decide) (by decide)).trans hrvR
  have kvR := (f.1 _ _ kvR).1
  have hruA := (f.2.1 v1 11 3 kv1 (by decide) (by decide)).trans hruA
  have kuA := (f.1 _ _ kuA).1
  have hruV := (f.2.1 v2 12 13 kv2 (by decide) (by decide)).trans hruV
  have kuV := (f.1 _ _ kuV).1
  have hruS := (f.2.1 v1 11 8 kv1 (by decide) (by decide)).trans hruS
  have luS := (f.1 _ _ kuS).2.trans luS
  have kuS := (f.1 _ _ kuS).1
  have hruK := (f.2.1 v2 12 63 kv2 (by decide) (by decide)).trans hruK
  have kuK := (f.1 _ _ kuK).1
  have hruC := (f.2.1 v2 12 64 kv2 (by decide) (by decide)).trans hruC
  have kuC := (f.1 _ _ kuC).1
  have hruB := (f.2.1 uT 10 0 kuT (by decide) (by decide)).trans hruB
  have hruM := (f.2.1 v2 12 18 kv2 (by decide) (by decide)).trans hruM
  have kuB := (f.1 _ _ kuB).1
  have kuM := (f.1 _ _ kuM).1
  have hruT := (f.2.1 v1 11 0 kv1 (by decide) (by decide)).trans hruT
  have kuT := (f.1 _ _ kuT).1
  have hruF := (f.2.1 v1 11 2 kv1 (by decide) (by decide)).trans hruF
  have kuF := (f.1 _ _ kuF).1
  have hl : jlen Z v3 = 1 := (f.1 _ _ kv3).2.trans hl
  have kv1 := (f.1 _ _ kv1).1
  have kv2 := (f.1 _ _ kv2).1
  have kv3 := (f.1 _ _ kv3).1
  unfold f_L_law_b1760
  intro x ex
  have tx : x.toInt = v4.toInt + 6 := by rw [ex]; exact i_add rfl (show (6 : Int32).toInt = 6 from rfl) (by omega) (by omega)
  exact hK _ _ _ x ex (LInv_mk (Z := Z) (I := I) T uT uB uM uF uS uK uC uA uV uX uY uR vR uP x0 x2 u5 u53 u54 u62 x1 uQ vQ uW vW t30 t29 u5c t6 t9 t10 t11 t12 ⟨w, bd, kv1, kv2, kv3, hl, ht, hruT, kuT, hruB, kuB, hruM⟩ ⟨kuM, hx, hruF, kuF, (by omega), (by omega), (by omega), hruS, kuS, luS, hruK, kuK⟩ ⟨hruC, kuC, hk, hruA, kuA, hruV, kuV, hv0, hruX, kuX, hruY, kuY⟩ ⟨hruR, kuR, hrvR, kvR, hs0, hc0, hs9, hpc, hpm, hru62, ku62, hp0⟩ ⟨hk2, hm1, hm0, hak, ha0, hwi, hlb, hfb, hpb, hsh⟩)
set_option maxHeartbeats 4000000 in
set_option maxRecDepth 100000 in
theorem k_b1197 {xs : Nat → Int32} {Ls : Nat} {B : Nat × Nat} {K : Nat → Nat → Nat → Int32 → jZ → jI → jL → Prop} {v1 v2 v3 : Nat} {v4 : Int32} {Z : jZ} {I : jI} {L : jL} {T uT uB uM uF uS uK uC uA uV uX uY uR vR uP x0 x2 u5 u53 u54 u62 x1 uQ vQ uW vW t30 t29 u5c t6 t9 t10 t11 t12 : Nat} (g0 : LG0 B v1 v2 v3 T uT uB uM Z I) (g1 : LG1 v1 v2 v4 uT uB uM uF uS uK Z I) (g2 : LG2 v1 v2 uF uS uK uC uA uV uX uY Z I) (g3 : LG3 v1 v2 uF uS uX uY uR vR uP x0 x2 u5 u53 u54 u62 Z I) (g4 : LG4 v1 v2 uF uS uA uP x0 u62 x1 uQ vQ uW vW t30 t29 u5c t6 t9 t10 t11 t12 Z I) (hv : 0 ≤ v4.toInt ∧ v4.toInt + 6 ≤ (Ls : Int) ∧ (Ls : Int) ≤ 3072) (hK : ∀ (Z : jZ) (I : jI) (L : jL) (x : Int32), x = v4 + 6 → LInv B v1 v2 v3 x Z I → K v1 v2 v3 x Z I L) : f_L_law_b1197 xs Ls B K v1 v2 v3 v4 Z I L := by
  obtain ⟨w, bd, kv1, kv2, kv3, hl, ht, hruT, kuT, hruB, kuB, hruM⟩ := g0
  obtain ⟨kuM, hx, hruF, kuF, hx1, hx2, hx3, hruS, kuS, luS, hruK, kuK⟩ := g1
  obtain ⟨hruC, kuC, hk, hruA, kuA, hruV, kuV, hv0, hruX, kuX, hruY, kuY⟩ := g2
  obtain ⟨hruR, kuR, hrvR, kvR, hs0, hc0, hs9, hpc, hpm, hru62, ku62, hp0⟩ := g3
  obtain ⟨hk2, hm1, hm0, hak, ha0, hwi, hlb, hfb, hpb, hsh⟩ := g4
  unfold f_L_law_b1197
  refine ⟨vi_of (i_add rfl (show (1 : Int32).toInt = 1 from rfl) (by omega) (by omega)) (by omega) (by omega), ?_⟩
  have wo := w
  have n24 : 0 ≤ (I v2 0).toInt ∧ (I v2 0).toInt ≤ 24 := w.fld 12 0 kv2 (by decide)
  refine s13_X11_mends w v1 _ kv1 uF hruF uX hruX uR hruR  (fun r1 I L w f p1 => ?_)
  have ht : (I v1 4).toInt + (T : Int) = 6 := by rw [f.2.2.1 v1 11 4 kv1 (by decide) (by decide)]; exact ht
  have ha0 := ARr_same (f.2.2.2 uF 8 2 uQ kuF hak.1 (by rw [hak.2.1.2]; rfl) rfl (by decide)) (f.2.2.2 v2 12 3 vQ kv2 hak.2.2.1 (by rw [hak.2.2.2.1.2]; rfl) rfl (by decide)) (congrArg Int32.toInt (f.2.2.1 v2 12 0 kv2 (by decide) (by decide))) ha0
  have hwi := WI_fr f kuF kv2 (by decide) hwi
  have hlb := LB_fr f wo kuF kv2 (by decide) hlb
  have hfb := FB_fr f kuF kv2 (by decide) hfb
  have hpb := PB_fr f kv1 kuA kv2 (by decide) hpb
  have hsh : (I v2 39).toInt = -1 := by rw [f.2.2.1 v2 12 39 kv2 (by decide) (by decide)]; exact hsh
  have hak := AK_fr f wo kuF kv2 kuS luS hru62 ku62 (by decide) hak
  have hm0 := MAI_fr wo hpc.2.2.2.1 hpc.2.2.2.2.1 hm1 f (by decide) (by decide) hm0
  have hp0 := PR_same (EQC_fr f hpc (by decide)) (EQM_fr f kv2 hpm (by decide)) hp0
  have hk2 : KP2 Z I uS u62 (I v2 0).toInt.toNat := by rw [(f.2.2.1 v2 12 0 kv2 (by decide) (by decide))]; exact KP2_fr f wo.1 kuS luS kv2 hru62 ku62 (by decide) (by decide) (by decide) hk2
  have hsA := hs0
  have hcA := hc0
  have wk := wo
  have fk := f
  have e01 := (f.2.2.1 v2 12 0 kv2 (by decide) (by decide))
  have eY1 : I uY = _ := (f.2.2.2 v2 12 2 uY kv2 hruY (by rw [kuY.2]; rfl) rfl (by decide))
  have hsR := hs9
  have eR1 : I vR = _ := (f.2.2.2 v2 12 1 vR kv2 hrvR (by rw [kvR.2]; rfl) rfl (by decide))
  have hc0 := KC_fr f wo.1 kuS luS kv2 hru62 ku62 (by decide) (by decide) (by decide) (congrArg Int32.toInt (f.2.2.1 v2 12 0 kv2 (by decide) (by decide))) hc0
  have hs9 := ARr_same (f.2.2.2 uF 8 0 uR kuF hruR (by rw [kuR.2]; rfl) rfl (by decide)) (f.2.2.2 v2 12 1 vR kv2 hrvR (by rw [kvR.2]; rfl) rfl (by decide)) (congrArg Int32.toInt (f.2.2.1 v2 12 0 kv2 (by decide) (by decide))) hs9
  have hv0 := PRr_fr f kv1 kuA (eMf f kv2 hruV kuV rfl (by decide)) (by decide) (by decide) hv0
  have hk := HK_fr f kuS kv2 hruK kuK hruC kuC (by decide) (by decide) (by decide) (by decide) hk
  have hx := TBr_fr f kuT hruB kuB kv2 hruM kuM (by decide) (by decide) (by decide) (by decide) hx
  have ea256 := congrArg Int32.toInt (f.2.2.1 uF 8 9 kuF (by decide) (by decide))
  have ea257 := congrArg Int32.toInt (f.2.2.1 v2 12 0 kv2 (by decide) (by decide))
  have ea258 := congrArg Int32.toInt (f.2.2.1 v2 12 7 kv2 (by decide) (by decide))
  have ea259 := congrArg Int32.toInt (f.2.2.1 v1 11 4 kv1 (by decide) (by decide))
  have ea260 := congrArg Int32.toInt (f.2.2.1 v2 12 8 kv2 (by decide) (by decide))
  refine ⟨vi_of (i_add rfl (show (1 : Int32).toInt = 1 from rfl) (by omega) (by omega)) (by omega) (by omega), ?_⟩
  have wo := w
  refine s13_X12_mends w v2 _ kv2 uY hruY vR hrvR  (fun r2 I L w f p2 => ?_)
  have ht : (I v1 4).toInt + (T : Int) = 6 := by rw [f.2.2.1 v1 11 4 kv1 (by decide) (by decide)]; exact ht
  have ha0 := ARr_same (f.2.2.2 uF 8 2 uQ kuF hak.1 (by rw [hak.2.1.2]; rfl) rfl (by decide)) (f.2.2.2 v2 12 3 vQ kv2 hak.2.2.1 (by rw [hak.2.2.2.1.2]; rfl) rfl (by decide)) (congrArg Int32.toInt (f.2.2.1 v2 12 0 kv2 (by decide) (by decide))) ha0
  have hwi := WI_fr f kuF kv2 (by decide) hwi
  have hlb := LB_fr f wo kuF kv2 (by decide) hlb
  have hfb := FB_fr f kuF kv2 (by decide) hfb
  have hpb := PB_fr f kv1 kuA kv2 (by decide) hpb
  have hsh : (I v2 39).toInt = -1 := by rw [f.2.2.1 v2 12 39 kv2 (by decide) (by decide)]; exact hsh
  have hak := AK_fr f wo kuF kv2 kuS luS hru62 ku62 (by decide) hak
  have hm0 := MAI_fr wo hpc.2.2.2.1 hpc.2.2.2.2.1 hm1 f (by decide) (by decide) hm0
  have hp0 := PR_same (EQC_fr f hpc (by decide)) (EQM_fr f kv2 hpm (by decide)) hp0
  have hk2 : KP2 Z I uS u62 (I v2 0).toInt.toNat := by rw [(f.2.2.1 v2 12 0 kv2 (by decide) (by decide))]; exact KP2_fr f wo.1 kuS luS kv2 hru62 ku62 (by decide) (by decide) (by decide) hk2
  have er := st_mendsA hx1 eY1 eR1 e01 p1 p2 hsA hsR
  have hs0 := st_mends hx1 eY1 (f.2.2.2 uF 8 1 uX kuF hruX (by rw [kuX.2]; rfl) rfl (by decide)) e01 (f.2.2.1 v2 12 0 kv2 (by decide) (by decide)) p1 p2 hsA
  have hc0 := KC_fr f wo.1 kuS luS kv2 hru62 ku62 (by decide) (by decide) (by decide) (congrArg Int32.toInt (f.2.2.1 v2 12 0 kv2 (by decide) (by decide))) hc0
  have hs9 := ARr_same (f.2.2.2 uF 8 0 uR kuF hruR (by rw [kuR.2]; rfl) rfl (by decide)) (f.2.2.2 v2 12 1 vR kv2 hrvR (by rw [kvR.2]; rfl) rfl (by decide)) (congrArg Int32.toInt (f.2.2.1 v2 12 0 kv2 (by decide) (by decide))) hs9
  have hv0 := PRr_fr f kv1 kuA (eMf f kv2 hruV kuV rfl (by decide)) (by decide) (by decide) hv0
  have hk := HK_fr f kuS kv2 hruK kuK hruC kuC (by decide) (by decide) (by decide) (by decide) hk
  have hx := TBr_fr f kuT hruB kuB kv2 hruM kuM (by decide) (by decide) (by decide) (by decide) hx
  have ea261 := congrArg Int32.toInt (f.2.2.1 uF 8 9 kuF (by decide) (by decide))
  have ea262 := congrArg Int32.toInt (f.2.2.1 v2 12 0 kv2 (by decide) (by decide))
  have ea263 := congrArg Int32.toInt (f.2.2.1 v2 12 7 kv2 (by decide) (by decide))
  have ea264 := congrArg Int32.toInt (f.2.2.1 v1 11 4 kv1 (by decide) (by decide))
  have ea265 := congrArg Int32.toInt (f.2.2.1 v2 12 8 kv2 (by decide) (by decide))
  unfold f_L_law_b1760
  intro x ex
  have tx : x.toInt = v4.toInt + 6 := by rw [ex]; exact i_add rfl (show (6 : Int32).toInt = 6 from rfl) (by omega) (by omega)
  exact hK _ _ _ x ex (LInv_mk (Z := Z) (I := I) T uT uB uM uF uS uK uC uA uV uX uY uR vR uP x0 x2 u5 u53 u54 u62 x1 uQ vQ uW vW t30 t29 u5c t6 t9 t10 t11 t12 ⟨w, bd, kv1, kv2, kv3, hl, ht, hruT, kuT, hruB, kuB, hruM⟩ ⟨kuM, hx, hruF, kuF, (by omega), (by omega), (by omega), hruS, kuS, luS, hruK, kuK⟩ ⟨hruC, kuC, hk, hruA, kuA, hruV, kuV, hv0, hruX, kuX, hruY, kuY⟩ ⟨hruR, kuR, hrvR, kvR, hs0, hc0, hs9, hpc, hpm, hru62, ku62, hp0⟩ ⟨hk2, hm1, hm0, hak, ha0, hwi, hlb, hfb, hpb, hsh⟩)
set_option maxHeartbeats 4000000 in
set_option maxRecDepth 100000 in
theorem k_b1222 {xs : Nat → Int32} {Ls : Nat} {B : Nat × Nat} {K : Nat → Nat → Nat → Int32 → jZ → jI → jL → Prop} {v1 v2 v3 : Nat} {v4 : Int32} {Z : jZ} {I : jI} {L : jL} {T uT uB uM uF uS uK uC uA uV uX uY uR vR uP x0 x2 u5 u53 u54 u62 x1 uQ vQ uW vW t30 t29 u5c t6 t9 t10 t11 t12 : Nat} (g0 : LG0 B v1 v2 v3 T uT uB uM Z I) (g1 : LG1 v1 v2 v4 uT uB uM uF uS uK Z I) (g2 : LG2 v1 v2 uF uS uK uC uA uV uX uY Z I) (g3 : LG3 v1 v2 uF uS uX uY uR vR uP x0 x2 u5 u53 u54 u62 Z I) (g4 : LG4 v1 v2 uF uS uA uP x0 u62 x1 uQ vQ uW vW t30 t29 u5c t6 t9 t10 t11 t12 Z I) (hv : 0 ≤ v4.toInt ∧ v4.toInt + 6 ≤ (Ls : Int) ∧ (Ls : Int) ≤ 3072) (hK : ∀ (Z : jZ) (I : jI) (L : jL) (x : Int32), x = v4 + 6 → LInv B v1 v2 v3 x Z I → K v1 v2 v3 x Z I L) : f_L_law_b1222 xs Ls B K v1 v2 v3 v4 Z I L := by
  obtain ⟨w, bd, kv1, kv2, kv3, hl, ht, hruT, kuT, hruB, kuB, hruM⟩ := g0
  obtain ⟨kuM, hx, hruF, kuF, hx1, hx2, hx3, hruS, kuS, luS, hruK, kuK⟩ := g1
  obtain ⟨hruC, kuC, hk, hruA, kuA, hruV, kuV, hv0, hruX, kuX, hruY, kuY⟩ := g2
  obtain ⟨hruR, kuR, hrvR, kvR, hs0, hc0, hs9, hpc, hpm, hru62, ku62, hp0⟩ := g3
  obtain ⟨hk2, hm1, hm0, hak, ha0, hwi, hlb, hfb, hpb, hsh⟩ := g4
  unfold f_L_law_b1222
  refine ⟨vi_of (i_add rfl (show (1 : Int32).toInt = 1 from rfl) (by omega) (by omega)) (by omega) (by omega), ?_⟩
  have wo := w
  refine s_X11_shut w bd v1 _ kv1  (fun r1 Z I L w bd f cp => ?_)
  have ht : (I v1 4).toInt + (T : Int) = 6 := by rw [f.2.2.1 v1 11 4 kv1 (by decide) (by decide)]; exact ht
  have ha0 := ARr_same (f.2.2.2 uF 8 2 uQ kuF hak.1 (by rw [hak.2.1.2]; rfl) rfl (by decide)) (f.2.2.2 v2 12 3 vQ kv2 hak.2.2.1 (by rw [hak.2.2.2.1.2]; rfl) rfl (by decide)) (congrArg Int32.toInt (f.2.2.1 v2 12 0 kv2 (by decide) (by decide))) ha0
  have hwi := WI_fr f kuF kv2 (by decide) hwi
  have hlb := LB_fr f wo kuF kv2 (by decide) hlb
  have hfb := FB_fr f kuF kv2 (by decide) hfb
  have hpb := PB_fr f kv1 kuA kv2 (by decide) hpb
  have hsh : (I v2 39).toInt = -1 := by rw [f.2.2.1 v2 12 39 kv2 (by decide) (by decide)]; exact hsh
  have hak := AK_fr f wo kuF kv2 kuS luS hru62 ku62 (by decide) hak
  have hm0 := MAI_fr wo hpc.2.2.2.1 hpc.2.2.2.2.1 hm1 f (by decide) (by decide) hm0
  have hp0 := PR_same (EQC_fr f hpc (by decide)) (EQM_fr f kv2 hpm (by decide)) hp0
  have hk2 : KP2 Z I uS u62 (I v2 0).toInt.toNat := by rw [(f.2.2.1 v2 12 0 kv2 (by decide) (by decide))]; exact KP2_fr f wo.1 kuS luS kv2 hru62 ku62 (by decide) (by decide) (by decide) hk2
  have hs0 := ARr_same (f.2.2.2 uF 8 1 uX kuF hruX (by rw [kuX.2]; rfl) rfl (by decide)) (f.2.2.2 v2 12 2 uY kv2 hruY (by rw [kuY.2]; rfl) rfl (by decide)) (congrArg Int32.toInt (f.2.2.1 v2 12 0 kv2 (by decide) (by decide))) hs0
  have hc0 := KC_fr f wo.1 kuS luS kv2 hru62 ku62 (by decide) (by decide) (by decide) (congrArg Int32.toInt (f.2.2.1 v2 12 0 kv2 (by decide) (by decide))) hc0
  have hs9 := ARr_same (f.2.2.2 uF 8 0 uR kuF hruR (by rw [kuR.2]; rfl) rfl (by decide)) (f.2.2.2 v2 12 1 vR kv2 hrvR (by rw [kvR.2]; rfl) rfl (by decide)) (congrArg Int32.toInt (f.2.2.1 v2 12 0 kv2 (by decide) (by decide))) hs9
  have hv0 := PRr_fr f kv1 kuA (eMf f kv2 hruV kuV rfl (by decide)) (by decide) (by decide) hv0
  have hk := HK_fr f kuS kv2 hruK kuK hruC kuC (by decide) (by decide) (by decide) (by decide) hk
  have hx := TBr_fr f kuT hruB kuB kv2 hruM kuM (by decide) (by decide) (by decide) (by decide) hx
  have ea266 := congrArg Int32.toInt (f.2.2.1 uF 8 9 kuF (by decide) (by decide))
  have ea267 := congrArg Int32.toInt (f.2.2.1 v2 12 0 kv2 (by decide) (by decide))
  have ea268 := congrArg Int32.toInt (f.2.2.1 v2 12 7 kv2 (by decide) (by decide))
  have ea269 := congrArg Int32.toInt (f.2.2.1 v1 11 4 kv1 (by decide) (by decide))
  have ea270 := congrArg Int32.toInt (f.2.2.1 v2 12 8 kv2 (by decide) (by decide))
  have hm1 := (f.2.1 uP 4 1 hpc.2.2.2.1 (by decide) (by decide)).trans hm1
  have hpc := PCs_x f.1 (fun a c j ka hc => f.2.1 a c j ka (by omega) (by omega)) kv1 hpc
  have hpm := PMs_x f.1 (fun j hj => f.2.1 v2 12 j kv2 (by omega) (by omega)) hpm
  have hru62 := (f.2.1 v2 12 62 kv2 (by decide) (by decide)).trans hru62
  have ku62 := (f.1 _ _ ku62).1
  have hruX := (f.2.1 uF 8 1 kuF (by decide) (by decide)).trans hruX
  have kuX := (f.1 _ _ kuX).1
  have hruY := (f.2.1 v2 12 2 kv2 (by decide) (by decide)).trans hruY
  have kuY := (f.1 _ _ kuY).1
  have hruR := (f.2.1 uF 8 0 kuF (by decide) (by decide)).trans hruR
  have kuR := (f.1 _ _ kuR).1
  have hrvR := (f.2.1 v2 12 1 kv2 (by decide) (by decide)).trans hrvR
  have kvR := (f.1 _ _ kvR).1
  have hruA := (f.2.1 v1 11 3 kv1 (by decide) (by decide)).trans hruA
  have kuA := (f.1 _ _ kuA).1
  have hruV := (f.2.1 v2 12 13 kv2 (by decide) (by decide)).trans hruV
  have kuV := (f.1 _ _ kuV).1
  have hruS := (f.2.1 v1 11 8 kv1 (by decide) (by decide)).trans hruS
  have luS := (f.1 _ _ kuS).2.trans luS
  have kuS := (f.1 _ _ kuS).1
  have hruK := (f.2.1 v2 12 63 kv2 (by decide) (by decide)).trans hruK
  have kuK := (f.1 _ _ kuK).1
  have hruC := (f.2.1 v2 12 64 kv2 (by decide) (by decide)).trans hruC
  have kuC := (f.1 _ _ kuC).1
  have hruB := (f.2.1 uT 10 0 kuT (by decide) (by decide)).trans hruB
  have hruM := (f.2.1 v2 12 18 kv2 (by decide) (by decide)).trans hruM
  have kuB := (f.1 _ _ kuB).1
  have kuM := (f.1 _ _ kuM).1
  have hruT := (f.2.1 v1 11 0 kv1 (by decide) (by decide)).trans hruT
  have kuT := (f.1 _ _ kuT).1
  have hruF := (f.2.1 v1 11 2 kv1 (by decide) (by decide)).trans hruF
  have kuF := (f.1 _ _ kuF).1
  have hl : jlen Z v3 = 1 := (f.1 _ _ kv3).2.trans hl
  have kv1 := (f.1 _ _ kv1).1
  have kv2 := (f.1 _ _ kv2).1
  have kv3 := (f.1 _ _ kv3).1
  refine ⟨vi_of (i_add rfl (show (1 : Int32).toInt = 1 from rfl) (by omega) (by omega)) (by omega) (by omega), ?_⟩
  have wo := w
  refine s21_X12_shut w bd v2 _ kv2 hsh  (fun r2 Z I L w bd f cp p2 => ?_)
  have ht : (I v1 4).toInt + (T : Int) = 6 := by rw [f.2.2.1 v1 11 4 kv1 (by decide) (by decide)]; exact ht
  have ha0 := ARr_same (f.2.2.2 uF 8 2 uQ kuF hak.1 (by rw [hak.2.1.2]; rfl) rfl (by decide)) (f.2.2.2 v2 12 3 vQ kv2 hak.2.2.1 (by rw [hak.2.2.2.1.2]; rfl) rfl (by decide)) (congrArg Int32.toInt (f.2.2.1 v2 12 0 kv2 (by decide) (by decide))) ha0
  have hwi := WI_fr f kuF kv2 (by decide) hwi
  have hlb := LB_fr f wo kuF kv2 (by decide) hlb
  have hfb := FB_fr f kuF kv2 (by decide) hfb
  have hpb := PB_fr f kv1 kuA kv2 (by decide) hpb
  have hsh : (I v2 39).toInt = -1 := p2
  have hak := AK_fr f wo kuF kv2 kuS luS hru62 ku62 (by decide) hak
  have hm0 := MAI_fr wo hpc.2.2.2.1 hpc.2.2.2.2.1 hm1 f (by decide) (by decide) hm0
  have hp0 := PR_same (EQC_fr f hpc (by decide)) (EQM_fr f kv2 hpm (by decide)) hp0
  have hk2 : KP2 Z I uS u62 (I v2 0).toInt.toNat := by rw [(f.2.2.1 v2 12 0 kv2 (by decide) (by decide))]; exact KP2_fr f wo.1 kuS luS kv2 hru62 ku62 (by decide) (by decide) (by decide) hk2
  have hs0 := ARr_same (f.2.2.2 uF 8 1 uX kuF hruX (by rw [kuX.2]; rfl) rfl (by decide)) (f.2.2.2 v2 12 2 uY kv2 hruY (by rw [kuY.2]; rfl) rfl (by decide)) (congrArg Int32.toInt (f.2.2.1 v2 12 0 kv2 (by decide) (by decide))) hs0
  have hc0 := KC_fr f wo.1 kuS luS kv2 hru62 ku62 (by decide) (by decide) (by decide) (congrArg Int32.toInt (f.2.2.1 v2 12 0 kv2 (by decide) (by decide))) hc0
  have hs9 := ARr_same (f.2.2.2 uF 8 0 uR kuF hruR (by rw [kuR.2]; rfl) rfl (by decide)) (f.2.2.2 v2 12 1 vR kv2 hrvR (by rw [kvR.2]; rfl) rfl (by decide)) (congrArg Int32.toInt (f.2.2.1 v2 12 0 kv2 (by decide) (by decide))) hs9
  have hv0 := PRr_fr f kv1 kuA (eMf f kv2 hruV kuV rfl (by decide)) (by decide) (by decide) hv0
  have hk := HK_fr f kuS kv2 hruK kuK hruC kuC (by decide) (by decide) (by decide) (by decide) hk
  have hx := TBr_fr f kuT hruB kuB kv2 hruM kuM (by decide) (by decide) (by decide) (by decide) hx
  have ea271 := congrArg Int32.toInt (f.2.2.1 uF 8 9 kuF (by decide) (by decide))
  have ea272 := congrArg Int32.toInt (f.2.2.1 v2 12 0 kv2 (by decide) (by decide))
  have ea273 := congrArg Int32.toInt (f.2.2.1 v2 12 7 kv2 (by decide) (by decide))
  have ea274 := congrArg Int32.toInt (f.2.2.1 v1 11 4 kv1 (by decide) (by decide))
  have ea275 := congrArg Int32.toInt (f.2.2.1 v2 12 8 kv2 (by decide) (by decide))
  have hm1 := (f.2.1 uP 4 1 hpc.2.2.2.1 (by decide) (by decide)).trans hm1
  have hpc := PCs_x f.1 (fun a c j ka hc => f.2.1 a c j ka (by omega) (by omega)) kv1 hpc
  have hpm := PMs_x f.1 (fun j hj => f.2.1 v2 12 j kv2 (by omega) (by omega)) hpm
  have hru62 := (f.2.1 v2 12 62 kv2 (by decide) (by decide)).trans hru62
  have ku62 := (f.1 _ _ ku62).1
  have hruX := (f.2.1 uF 8 1 kuF (by decide) (by decide)).trans hruX
  have kuX := (f.1 _ _ kuX).1
  have hruY := (f.2.1 v2 12 2 kv2 (by decide) (by decide)).trans hruY
  have kuY := (f.1 _ _ kuY).1
  have hruR := (f.2.1 uF 8 0 kuF (by decide) (by decide)).trans hruR
  have kuR := (f.1 _ _ kuR).1
  have hrvR := (f.2.1 v2 12 1 kv2 (by decide) (by decide)).trans hrvR
  have kvR := (f.1 _ _ kvR).1
  have hruA := (f.2.1 v1 11 3 kv1 (by decide) (by decide)).trans hruA
  have kuA := (f.1 _ _ kuA).1
  have hruV := (f.2.1 v2 12 13 kv2 (by decide) (by decide)).trans hruV
  have kuV := (f.1 _ _ kuV).1
  have hruS := (f.2.1 v1 11 8 kv1 (by decide) (by decide)).trans hruS
  have luS := (f.1 _ _ kuS).2.trans luS
  have kuS := (f.1 _ _ kuS).1
  have hruK := (f.2.1 v2 12 63 kv2 (by decide) (by decide)).trans hruK
  have kuK := (f.1 _ _ kuK).1
  have hruC := (f.2.1 v2 12 64 kv2 (by decide) (by decide)).trans hruC
  have kuC := (f.1 _ _ kuC).1
  have hruB := (f.2.1 uT 10 0 kuT (by decide) (by decide)).trans hruB
  have hruM := (f.2.1 v2 12 18 kv2 (by decide) (by decide)).trans hruM
  have kuB := (f.1 _ _ kuB).1
  have kuM := (f.1 _ _ kuM).1
  have hruT := (f.2.1 v1 11 0 kv1 (by decide) (by decide)).trans hruT
  have kuT := (f.1 _ _ kuT).1
  have hruF := (f.2.1 v1 11 2 kv1 (by decide) (by decide)).trans hruF
  have kuF := (f.1 _ _ kuF).1
  have hl : jlen Z v3 = 1 := (f.1 _ _ kv3).2.trans hl
  have kv1 := (f.1 _ _ kv1).1
  have kv2 := (f.1 _ _ kv2).1
  have kv3 := (f.1 _ _ kv3).1
  unfold f_L_law_b1760
  intro x ex
  have tx : x.toInt = v4.toInt + 6 := by rw [ex]; exact i_add rfl (show (6 : Int32).toInt = 6 from rfl) (by omega) (by omega)
  exact hK _ _ _ x ex (LInv_mk (Z := Z) (I := I) T uT uB uM uF uS uK uC uA uV uX uY uR vR uP x0 x2 u5 u53 u54 u62 x1 uQ vQ uW vW t30 t29 u5c t6 t9 t10 t11 t12 ⟨w, bd, kv1, kv2, kv3, hl, ht, hruT, kuT, hruB, kuB, hruM⟩ ⟨kuM, hx, hruF, kuF, (by omega), (by omega), (by omega), hruS, kuS, luS, hruK, kuK⟩ ⟨hruC, kuC, hk, hruA, kuA, hruV, kuV, hv0, hruX, kuX, hruY, kuY⟩ ⟨hruR, kuR, hrvR, kvR, hs0, hc0, hs9, hpc, hpm, hru62, ku62, hp0⟩ ⟨hk2, hm1, hm0, hak, ha0, hwi, hlb, hfb, hpb, hsh⟩)
set_option maxHeartbeats 4000000 in
set_option maxRecDepth 100000 in
theorem k_b1247 {xs : Nat → Int32} {Ls : Nat} {B : Nat × Nat} {K : Nat → Nat → Nat → Int32 → jZ → jI → jL → Prop} {v1 v2 v3 : Nat} {v4 : Int32} {Z : jZ} {I : jI} {L : jL} {T uT uB uM uF uS uK uC uA uV uX uY uR vR uP x0 x2 u5 u53 u54 u62 x1 uQ vQ uW vW t30 t29 u5c t6 t9 t10 t11 t12 : Nat} (g0 : LG0 B v1 v2 v3 T uT uB uM Z I) (g1 : LG1 v1 v2 v4 uT uB uM uF uS uK Z I) (g2 : LG2 v1 v2 uF uS uK uC uA uV uX uY Z I) (g3 : LG3 v1 v2 uF uS uX uY uR vR uP x0 x2 u5 u53 u54 u62 Z I) (g4 : LG4 v1 v2 uF uS uA uP x0 u62 x1 uQ vQ uW vW t30 t29 u5c t6 t9 t10 t11 t12 Z I) (hv : 0 ≤ v4.toInt ∧ v4.toInt + 6 ≤ (Ls : Int) ∧ (Ls : Int) ≤ 3072) (hK : ∀ (Z : jZ) (I : jI) (L : jL) (x : Int32), x = v4 + 6 → LInv B v1 v2 v3 x Z I → K v1 v2 v3 x Z I L) : f_L_law_b1247 xs Ls B K v1 v2 v3 v4 Z I L := by
  obtain ⟨w, bd, kv1, kv2, kv3, hl, ht, hruT, kuT, hruB, kuB, hruM⟩ := g0
  obtain ⟨kuM, hx, hruF, kuF, hx1, hx2, hx3, hruS, kuS, luS, hruK, kuK⟩ := g1
  obtain ⟨hruC, kuC, hk, hruA, kuA, hruV, kuV, hv0, hruX, kuX, hruY, kuY⟩ := g2
  obtain ⟨hruR, kuR, hrvR, kvR, hs0, hc0, hs9, hpc, hpm, hru62, ku62, hp0⟩ := g3
  obtain ⟨hk2, hm1, hm0, hak, ha0, hwi, hlb, hfb, hpb, hsh⟩ := g4
  unfold f_L_law_b1247
  refine ⟨vi_of (i_add rfl (show (1 : Int32).toInt = 1 from rfl) (by omega) (by omega)) (by omega) (by omega), ?_⟩
  have wo := w
  refine s_X11_toll w bd v1 _ kv1  (fun r1 Z I L w bd f cp => ?_)
  have ht : (I v1 4).toInt + (T : Int) = 6 := by rw [f.2.2.1 v1 11 4 kv1 (by decide) (by decide)]; exact ht
  have ha0 := ARr_same (f.2.2.2 uF 8 2 uQ kuF hak.1 (by rw [hak.2.1.2]; rfl) rfl (by decide)) (f.2.2.2 v2 12 3 vQ kv2 hak.2.2.1 (by rw [hak.2.2.2.1.2]; rfl) rfl (by decide)) (congrArg Int32.toInt (f.2.2.1 v2 12 0 kv2 (by decide) (by decide))) ha0
  have hwi := WI_fr f kuF kv2 (by decide) hwi
  have hlb := LB_fr f wo kuF kv2 (by decide) hlb
  have hfb := FB_fr f kuF kv2 (by decide) hfb
  have hpb := PB_fr f kv1 kuA kv2 (by decide) hpb
  have hsh : (I v2 39).toInt = -1 := by rw [f.2.2.1 v2 12 39 kv2 (by decide) (by decide)]; exact hsh
  have hak := AK_fr f wo kuF kv2 kuS luS hru62 ku62 (by decide) hak
  have hm0 := MAI_fr wo hpc.2.2.2.1 hpc.2.2.2.2.1 hm1 f (by decide) (by decide) hm0
  have hp0 := PR_same (EQC_fr f hpc (by decide)) (EQM_fr f kv2 hpm (by decide)) hp0
  have hk2 : KP2 Z I uS u62 (I v2 0).toInt.toNat := by rw [(f.2.2.1 v2 12 0 kv2 (by decide) (by decide))]; exact KP2_fr f wo.1 kuS luS kv2 hru62 ku62 (by decide) (by decide) (by decide) hk2
  have hs0 := ARr_same (f.2.2.2 uF 8 1 uX kuF hruX (by rw [kuX.2]; rfl) rfl (by decide)) (f.2.2.2 v2 12 2 uY kv2 hruY (by rw [kuY.2]; rfl) rfl (by decide)) (congrArg Int32.toInt (f.2.2.1 v2 12 0 kv2 (by decide) (by decide))) hs0
  have hc0 := KC_fr f wo.1 kuS luS kv2 hru62 ku62 (by decide) (by decide) (by decide) (congrArg Int32.toInt (f.2.2.1 v2 12 0 kv2 (by decide) (by decide))) hc0
  have hs9 := ARr_same (f.2.2.2 uF 8 0 uR kuF hruR (by rw [kuR.2]; rfl) rfl (by decide)) (f.2.2.2 v2 12 1 vR kv2 hrvR (by rw [kvR.2]; rfl) rfl (by decide)) (congrArg Int32.toInt (f.2.2.1 v2 12 0 kv2 (by decide) (by decide))) hs9
  have hv0 := PRr_fr f kv1 kuA (eMf f kv2 hruV kuV rfl (by decide)) (by decide) (by decide) hv0
  have hk := HK_fr f kuS kv2 hruK kuK hruC kuC (by decide) (by decide) (by decide) (by decide) hk
  have hx := TBr_fr f kuT hruB kuB kv2 hruM kuM (by decide) (by decide) (by decide) (by decide) hx
  have ea276 := congrArg Int32.toInt (f.2.2.1 uF 8 9 kuF (by decide) (by decide))
  have ea277 := congrArg Int32.toInt (f.2.2.1 v2 12 0 kv2 (by decide) (by decide))
  have ea278 := congrArg Int32.toInt (f.2.2.1 v2 12 7 kv2 (by decide) (by decide))
  have ea279 := congrArg Int32.toInt (f.2.2.1 v1 11 4 kv1 (by decide) (by decide))
  have ea280 := congrArg Int32.toInt (f.2.2.1 v2 12 8 kv2 (by decide) (by decide))
  have hm1 := (f.2.1 uP 4 1 hpc.2.2.2.1 (by decide) (by decide)).trans hm1
  have hpc := PCs_x f.1 (fun a c j ka hc => f.2.1 a c j ka (by omega) (by omega)) kv1 hpc
  have hpm := PMs_x f.1 (fun j hj => f.2.1 v2 12 j kv2 (by omega) (by omega)) hpm
  have hru62 := (f.2.1 v2 12 62 kv2 (by decide) (by decide)).trans hru62
  have ku62 := (f.1 _ _ ku62).1
  have hruX := (f.2.1 uF 8 1 kuF (by decide) (by decide)).trans hruX
  have kuX := (f.1 _ _ kuX).1
  have hruY := (f.2.1 v2 12 2 kv2 (by decide) (by decide)).trans hruY
  have kuY := (f.1 _ _ kuY).1
  have hruR := (f.2.1 uF 8 0 kuF (by decide) (by decide)).trans hruR
  have kuR := (f.1 _ _ kuR).1
  have hrvR := (f.2.1 v2 12 1 kv2 (by decide) (by decide)).trans hrvR
  have kvR := (f.1 _ _ kvR).1
  have hruA := (f.2.1 v1 11 3 kv1 (by decide) (by decide)).trans hruA
  have kuA := (f.1 _ _ kuA).1
  have hruV := (f.2.1 v2 12 13 kv2 (by decide) (by decide)).trans hruV
  have kuV := (f.1 _ _ kuV).1
  have hruS := (f.2.1 v1 11 8 kv1 (by decide) (by decide)).trans hruS
  have luS := (f.1 _ _ kuS).2.trans luS
  have kuS := (f.1 _ _ kuS).1
  have hruK := (f.2.1 v2 12 63 kv2 (by decide) (by decide)).trans hruK
  have kuK := (f.1 _ _ kuK).1
  have hruC := (f.2.1 v2 12 64 kv2 (by decide) (by decide)).trans hruC
  have kuC := (f.1 _ _ kuC).1
  have hruB := (f.2.1 uT 10 0 kuT (by decide) (by decide)).trans hruB
  have hruM := (f.2.1 v2 12 18 kv2 (by decide) (by decide)).trans hruM
  have kuB := (f.1 _ _ kuB).1
  have kuM := (f.1 _ _ kuM).1
  have hruT := (f.2.1 v1 11 0 kv1 (by decide) (by decide)).trans hruT
  have kuT := (f.1 _ _ kuT).1
  have hruF := (f.2.1 v1 11 2 kv1 (by decide) (by decide)).trans hruF
  have kuF := (f.1 _ _ kuF).1
  have hl : jlen Z v3 = 1 := (f.1 _ _ kv3).2.trans hl
  have kv1 := (f.1 _ _ kv1).1
  have kv2 := (f.1 _ _ kv2).1
  have kv3 := (f.1 _ _ kv3).1
  refine ⟨vi_of (i_add rfl (show (1 : Int32).toInt = 1 from rfl) (by omega) (by omega)) (by omega) (by omega), ?_⟩
  have wo := w
  refine s21_X12_toll w bd v2 _ kv2 vQ hak.2.2.1  (fun r2 Z I L w bd f cp p2 => ?_)
  have ht : (I v1 4).toInt + (T : Int) = 6 := by rw [f.2.2.1 v1 11 4 kv1 (by decide) (by decide)]; exact ht
  have ha0 := ARr_same (f.2.2.2 uF 8 2 uQ kuF hak.1 (by rw [hak.2.1.2]; rfl) rfl (by decide)) p2 (congrArg Int32.toInt (f.2.2.1 v2 12 0 kv2 (by decide) (by decide))) ha0
  have hwi := WI_fr f kuF kv2 (by decide) hwi
  have hlb := LB_fr f wo kuF kv2 (by decide) hlb
  have hfb := FB_fr f kuF kv2 (by decide) hfb
  have hpb := PB_fr f kv1 kuA kv2 (by decide) hpb
  have hsh : (I v2 39).toInt = -1 := by rw [f.2.2.1 v2 12 39 kv2 (by decide) (by decide)]; exact hsh
  have hak := AK_fr f wo kuF kv2 kuS luS hru62 ku62 (by decide) hak
  have hm0 := MAI_fr wo hpc.2.2.2.1 hpc.2.2.2.2.1 hm1 f (by decide) (by decide) hm0
  have hp0 := PR_same (EQC_fr f hpc (by decide)) (EQM_fr f kv2 hpm (by decide)) hp0
  have hk2 : KP2 Z I uS u62 (I v2 0).toInt.toNat := by rw [(f.2.2.1 v2 12 0 kv2 (by decide) (by decide))]; exact KP2_fr f wo.1 kuS luS kv2 hru62 ku62 (by decide) (by decide) (by decide) hk2
  have hs0 := ARr_same (f.2.2.2 uF 8 1 uX kuF hruX (by rw [kuX.2]; rfl) rfl (by decide)) (f.2.2.2 v2 12 2 uY kv2 hruY (by rw [kuY.2]; rfl) rfl (by decide)) (congrArg Int32.toInt (f.2.2.1 v2 12 0 kv2 (by decide) (by decide))) hs0
  have hc0 := KC_fr f wo.1 kuS luS kv2 hru62 ku62 (by decide) (by decide) (by decide) (congrArg Int32.toInt (f.2.2.1 v2 12 0 kv2 (by decide) (by decide))) hc0
  have hs9 := ARr_same (f.2.2.2 uF 8 0 uR kuF hruR (by rw [kuR.2]; rfl) rfl (by decide)) (f.2.2.2 v2 12 1 vR kv2 hrvR (by rw [kvR.2]; rfl) rfl (by decide)) (congrArg Int32.toInt (f.2.2.1 v2 12 0 kv2 (by decide) (by decide))) hs9
  have hv0 := PRr_fr f kv1 kuA (eMf f kv2 hruV kuV rfl (by decide)) (by decide) (by decide) hv0
  have hk := HK_fr f kuS kv2 hruK kuK hruC kuC (by decide) (by decide) (by decide) (by decide) hk
  have hx := TBr_fr f kuT hruB kuB kv2 hruM kuM (by decide) (by decide) (by decide) (by decide) hx
  have ea281 := congrArg Int32.toInt (f.2.2.1 uF 8 9 kuF (by decide) (by decide))
  have ea282 := congrArg Int32.toInt (f.2.2.1 v2 12 0 kv2 (by decide) (by decide))
  have ea283 := congrArg Int32.toInt (f.2.2.1 v2 12 7 kv2 (by decide) (by decide))
  have ea284 := congrArg Int32.toInt (f.2.2.1 v1 11 4 kv1 (by decide) (by decide))
  have ea285 := congrArg Int32.toInt (f.2.2.1 v2 12 8 kv2 (by decide) (by decide))
  have hm1 := (f.2.1 uP 4 1 hpc.2.2.2.1 (by decide) (by decide)).trans hm1
  have hpc := PCs_x f.1 (fun a c j ka hc => f.2.1 a c j ka (by omega) (by omega)) kv1 hpc
  have hpm := PMs_x f.1 (fun j hj => f.2.1 v2 12 j kv2 (by omega) (by omega)) hpm
  have hru62 := (f.2.1 v2 12 62 kv2 (by decide) (by decide)).trans hru62
  have ku62 := (f.1 _ _ ku62).1
  have hruX := (f.2.1 uF 8 1 kuF (by decide) (by decide)).trans hruX
  have kuX := (f.1 _ _ kuX).1
  have hruY := (f.2.1 v2 12 2 kv2 (by decide) (by decide)).trans hruY
  have kuY := (f.1 _ _ kuY).1
  have hruR := (f.2.1 uF 8 0 kuF (by decide) (by decide)).trans hruR
  have kuR := (f.1 _ _ kuR).1
  have hrvR := (f.2.1 v2 12 1 kv2 (by decide) (by decide)).trans hrvR
  have kvR := (f.1 _ _ kvR).1
  have hruA := (f.2.1 v1 11 3 kv1 (by decide) (by decide)).trans hruA
  have kuA := (f.1 _ _ kuA).1
  have hruV := (f.2.1 v2 12 13 kv2 (by decide) (by decide)).trans hruV
  have kuV := (f.1 _ _ kuV).1
  have hruS := (f.2.1 v1 11 8 kv1 (by decide) (by decide)).trans hruS
  have luS := (f.1 _ _ kuS).2.trans luS
  have kuS := (f.1 _ _ kuS).1
  have hruK := (f.2.1 v2 12 63 kv2 (by decide) (by decide)).trans hruK
  have kuK := (f.1 _ _ kuK).1
  have hruC := (f.2.1 v2 12 64 kv2 (by decide) (by decide)).trans hruC
  have kuC := (f.1 _ _ kuC).1
  have hruB := (f.2.1 uT 10 0 kuT (by decide) (by decide)).trans hruB
  have hruM := (f.2.1 v2 12 18 kv2 (by decide) (by decide)).trans hruM
  have kuB := (f.1 _ _ kuB).1
  have kuM := (f.1 _ _ kuM).1
  have hruT := (f.2.1 v1 11 0 kv1 (by decide) (by decide)).trans hruT
  have kuT := (f.1 _ _ kuT).1
  have hruF := (f.2.1 v1 11 2 kv1 (by decide) (by decide)).trans hruF
  have kuF := (f.1 _ _ kuF).1
  have hl : jlen Z v3 = 1 := (f.1 _ _ kv3).2.trans hl
  have kv1 := (f.1 _ _ kv1).1
  have kv2 := (f.1 _ _ kv2).1
  have kv3 := (f.1 _ _ kv3).1
  unfold f_L_law_b1760
  intro x ex
  have tx : x.toInt = v4.toInt + 6 := by rw [ex]; exact i_add rfl (show (6 : Int32).toInt = 6 from rfl) (by omega) (by omega)
  exact hK _ _ _ x ex (LInv_mk (Z := Z) (I := I) T uT uB uM uF uS uK uC uA uV uX uY uR vR uP x0 x2 u5 u53 u54 u62 x1 uQ vQ uW vW t30 t29 u5c t6 t9 t10 t11 t12 ⟨w, bd, kv1, kv2, kv3, hl, ht, hruT, kuT, hruB, kuB, hruM⟩ ⟨kuM, hx, hruF, kuF, (by omega), (by omega), (by omega), hruS, kuS, luS, hruK, kuK⟩ ⟨hruC, kuC, hk, hruA, kuA, hruV, kuV, hv0, hruX, kuX, hruY, kuY⟩ ⟨hruR, kuR, hrvR, kvR, hs0, hc0, hs9, hpc, hpm, hru62, ku62, hp0⟩ ⟨hk2, hm1, hm0, hak, ha0, hwi, hlb, hfb, hpb, hsh⟩)
set_option maxHeartbeats 4000000 in
set_option maxRecDepth 100000 in
theorem k_b1272 {xs : Nat → Int32} {Ls : Nat} {B : Nat × Nat} {K : Nat → Nat → Nat → Int32 → jZ → jI → jL → Prop} {v1 v2 v3 : Nat} {v4 : Int32} {Z : jZ} {I : jI} {L : jL} {T uT uB uM uF uS uK uC uA uV uX uY uR vR uP x0 x2 u5 u53 u54 u62 x1 uQ vQ uW vW t30 t29 u5c t6 t9 t10 t11 t12 : Nat} (g0 : LG0 B v1 v2 v3 T uT uB uM Z I) (g1 : LG1 v1 v2 v4 uT uB uM uF uS uK Z I) (g2 : LG2 v1 v2 uF uS uK uC uA uV uX uY Z I) (g3 : LG3 v1 v2 uF uS uX uY uR vR uP x0 x2 u5 u53 u54 u62 Z I) (g4 : LG4 v1 v2 uF uS uA uP x0 u62 x1 uQ vQ uW vW t30 t29 u5c t6 t9 t10 t11 t12 Z I) (hv : 0 ≤ v4.toInt ∧ v4.toInt + 6 ≤ (Ls : Int) ∧ (Ls : Int) ≤ 3072) (hK : ∀ (Z : jZ) (I : jI) (L : jL) (x : Int32), x = v4 + 6 → LInv B v1 v2 v3 x Z I → K v1 v2 v3 x Z I L) : f_L_law_b1272 xs Ls B K v1 v2 v3 v4 Z I L := by
  obtain ⟨w, bd, kv1, kv2, kv3, hl, ht, hruT, kuT, hruB, kuB, hruM⟩ := g0
  obtain ⟨kuM, hx, hruF, kuF, hx1, hx2, hx3, hruS, kuS, luS, hruK, kuK⟩ := g1
  obtain ⟨hruC, kuC, hk, hruA, kuA, hruV, kuV, hv0, hruX, kuX, hruY, kuY⟩ := g2
  obtain ⟨hruR, kuR, hrvR, kvR, hs0, hc0, hs9, hpc, hpm, hru62, ku62, hp0⟩ := g3
  obtain ⟨hk2, hm1, hm0, hak, ha0, hwi, hlb, hfb, hpb, hsh⟩ := g4
  unfold f_L_law_b1272
  have wo := w
  obtain ⟨F9, hF9s, hF9c, hF9m⟩ := hfb.2.2.2.2
  refine s21_X11_peace w bd v1 kv1 uF u5c hruF hfb.1 F9 hF9s hF9c  (fun r1 Z I L w bd f cp p1 => ?_)
  have ht : (I v1 4).toInt + (T : Int) = 6 := by rw [f.2.2.1 v1 11 4 kv1 (by decide) (by decide)]; exact ht
  have ha0 := ARr_same (f.2.2.2 uF 8 2 uQ kuF hak.1 (by rw [hak.2.1.2]; rfl) rfl (by decide)) (f.2.2.2 v2 12 3 vQ kv2 hak.2.2.1 (by rw [hak.2.2.2.1.2]; rfl) rfl (by decide)) (congrArg Int32.toInt (f.2.2.1 v2 12 0 kv2 (by decide) (by decide))) ha0
  have hwi := WI_fr f kuF kv2 (by decide) hwi
  have hlb := LB_fr f wo kuF kv2 (by decide) hlb
  have hF9m : FEm (I t6) F9 := by rw [(f.2.2.2 v2 12 6 t6 kv2 hfb.2.2.1 (by rw [hfb.2.2.2.1.2]; rfl) rfl (by decide))]; exact hF9m
  have hfb : FB Z I uF v2 u5c t6 := ⟨(f.2.1 uF 8 5 kuF (by decide) (by decide)).trans hfb.1, (f.1 _ _ hfb.2.1).1, (f.2.1 v2 12 6 kv2 (by decide) (by decide)).trans hfb.2.2.1, (f.1 _ _ hfb.2.2.2.1).1, F9, hF9s, p1, hF9m⟩
  have hF9c := p1
  have hpb := PB_fr f kv1 kuA kv2 (by decide) hpb
  have hsh : (I v2 39).toInt = -1 := by rw [f.2.2.1 v2 12 39 kv2 (by decide) (by decide)]; exact hsh
  have hak := AK_fr f wo kuF kv2 kuS luS hru62 ku62 (by decide) hak
  have hm0 := MAI_fr wo hpc.2.2.2.1 hpc.2.2.2.2.1 hm1 f (by decide) (by decide) hm0
  have hp0 := PR_same (EQC_fr f hpc (by decide)) (EQM_fr f kv2 hpm (by decide)) hp0
  have hk2 : KP2 Z I uS u62 (I v2 0).toInt.toNat := by rw [(f.2.2.1 v2 12 0 kv2 (by decide) (by decide))]; exact KP2_fr f wo.1 kuS luS kv2 hru62 ku62 (by decide) (by decide) (by decide) hk2
  have hs0 := ARr_same (f.2.2.2 uF 8 1 uX kuF hruX (by rw [kuX.2]; rfl) rfl (by decide)) (f.2.2.2 v2 12 2 uY kv2 hruY (by rw [kuY.2]; rfl) rfl (by decide)) (congrArg Int32.toInt (f.2.2.1 v2 12 0 kv2 (by decide) (by decide))) hs0
  have hc0 := KC_fr f wo.1 kuS luS kv2 hru62 ku62 (by decide) (by decide) (by decide) (congrArg Int32.toInt (f.2.2.1 v2 12 0 kv2 (by decide) (by decide))) hc0
  have hs9 := ARr_same (f.2.2.2 uF 8 0 uR kuF hruR (by rw [kuR.2]; rfl) rfl (by decide)) (f.2.2.2 v2 12 1 vR kv2 hrvR (by rw [kvR.2]; rfl) rfl (by decide)) (congrArg Int32.toInt (f.2.2.1 v2 12 0 kv2 (by decide) (by decide))) hs9
  have hv0 := PRr_fr f kv1 kuA (eMf f kv2 hruV kuV rfl (by decide)) (by decide) (by decide) hv0
  have hk := HK_fr f kuS kv2 hruK kuK hruC kuC (by decide) (by decide) (by decide) (by decide) hk
  have hx := TBr_fr f kuT hruB kuB kv2 hruM kuM (by decide) (by decide) (by decide) (by decide) hx
  have ea286 := congrArg Int32.toInt (f.2.2.1 uF 8 9 kuF (by decide) (by decide))
  have ea287 := congrArg Int32.toInt (f.2.2.1 v2 12 0 kv2 (by decide) (by decide))
  have ea288 := congrArg Int32.toInt (f.2.2.1 v2 12 7 kv2 (by decide) (by decide))
  have ea289 := congrArg Int32.toInt (f.2.2.1 v1 11 4 kv1 (by decide) (by decide))
  have ea290 := congrArg Int32.toInt (f.2.2.1 v2 12 8 kv2 (by decide) (by decide))
  have hm1 := (f.2.1 uP 4 1 hpc.2.2.2.1 (by decide) (by decide)).trans hm1
  have hpc := PCs_x f.1 (fun a c j ka hc => f.2.1 a c j ka (by omega) (by omega)) kv1 hpc
  have hpm := PMs_x f.1 (fun j hj => f.2.1 v2 12 j kv2 (by omega) (by omega)) hpm
  have hru62 := (f.2.1 v2 12 62 kv2 (by decide) (by decide)).trans hru62
  have ku62 := (f.1 _ _ ku62).1
  have hruX := (f.2.1 uF 8 1 kuF (by decide) (by decide)).trans hruX
  have kuX := (f.1 _ _ kuX).1
  have hruY := (f.2.1 v2 12 2 kv2 (by decide) (by decide)).trans hruY
  have kuY := (f.1 _ _ kuY).1
  have hruR := (f.2.1 uF 8 0 kuF (by decide) (by decide)).trans hruR
  have kuR := (f.1 _ _ kuR).1
  have hrvR := (f.2.1 v2 12 1 kv2 (by decide) (by decide)).trans hrvR
  have kvR := (f.1 _ _ kvR).1
  have hruA := (f.2.1 v1 11 3 kv1 (by decide) (by decide)).trans hruA
  have kuA := (f.1 _ _ kuA).1
  have hruV := (f.2.1 v2 12 13 kv2 (by decide) (by decide)).trans hruV
  have kuV := (f.1 _ _ kuV).1
  have hruS := (f.2.1 v1 11 8 kv1 (by decide) (by decide)).trans hruS
  have luS := (f.1 _ _ kuS).2.trans luS
  have kuS := (f.1 _ _ kuS).1
  have hruK := (f.2.1 v2 12 63 kv2 (by decide) (by decide)).trans hruK
  have kuK := (f.1 _ _ kuK).1
  have hruC := (f.2.1 v2 12 64 kv2 (by decide) (by decide)).trans hruC
  have kuC := (f.1 _ _ kuC).1
  have hruB := (f.2.1 uT 10 0 kuT (by decide) (by decide)).trans hruB
  have hruM := (f.2.1 v2 12 18 kv2 (by decide) (by decide)).trans hruM
  have kuB := (f.1 _ _ kuB).1
  have kuM := (f.1 _ _ kuM).1
  have hruT := (f.2.1 v1 11 0 kv1 (by decide) (by decide)).trans hruT
  have kuT := (f.1 _ _ kuT).1
  have hruF := (f.2.1 v1 11 2 kv1 (by decide) (by decide)).trans hruF
  have kuF := (f.1 _ _ kuF).1
  have hl : jlen Z v3 = 1 := (f.1 _ _ kv3).2.trans hl
  have kv1 := (f.1 _ _ kv1).1
  have kv2 := (f.1 _ _ kv2).1
  have kv3 := (f.1 _ _ kv3).1
  have wo := w
  refine s21_X12_peace w bd v2 kv2 t6 hfb.2.2.1 F9 hF9s hF9m  (fun r2 Z I L w bd f cp p2 => ?_)
  have ht : (I v1 4).toInt + (T : Int) = 6 := by rw [f.2.2.1 v1 11 4 kv1 (by decide) (by decide)]; exact ht
  have ha0 := ARr_same (f.2.2.2 uF 8 2 uQ kuF hak.1 (by rw [hak.2.1.2]; rfl) rfl (by decide)) (f.2.2.2 v2 12 3 vQ kv2 hak.2.2.1 (by rw [hak.2.2.2.1.2]; rfl) rfl (by decide)) (congrArg Int32.toInt (f.2.2.1 v2 12 0 kv2 (by decide) (by decide))) ha0
  have hwi := WI_fr f kuF kv2 (by decide) hwi
  have hlb := LB_fr f wo kuF kv2 (by decide) hlb
  have hfb : FB Z I uF v2 u5c t6 := ⟨(f.2.1 uF 8 5 kuF (by decide) (by decide)).trans hfb.1, (f.1 _ _ hfb.2.1).1, (f.2.1 v2 12 6 kv2 (by decide) (by decide)).trans hfb.2.2.1, (f.1 _ _ hfb.2.2.2.1).1, F9, hF9s, by rw [(f.2.2.2 uF 8 5 u5c kuF hfb.1 (by rw [hfb.2.1.2]; rfl) rfl (by decide))]; exact hF9c, p2⟩
  have hpb := PB_fr f kv1 kuA kv2 (by decide) hpb
  have hsh : (I v2 39).toInt = -1 := by rw [f.2.2.1 v2 12 39 kv2 (by decide) (by decide)]; exact hsh
  have hak := AK_fr f wo kuF kv2 kuS luS hru62 ku62 (by decide) hak
  have hm0 := MAI_fr wo hpc.2.2.2.1 hpc.2.2.2.2.1 hm1 f (by decide) (by decide) hm0
  have hp0 := PR_same (EQC_fr f hpc (by decide)) (EQM_fr f kv2 hpm (by decide)) hp0
  have hk2 : KP2 Z I uS u62 (I v2 0).toInt.toNat := by rw [(f.2.2.1 v2 12 0 kv2 (by decide) (by decide))]; exact KP2_fr f wo.1 kuS luS kv2 hru62 ku62 (by decide) (by decide) (by decide) hk2
  have hs0 := ARr_same (f.2.2.2 uF 8 1 uX kuF hruX (by rw [kuX.2]; rfl) rfl (by decide)) (f.2.2.2 v2 12 2 uY kv2 hruY (by rw [kuY.2]; rfl) rfl (by decide)) (congrArg Int32.toInt (f.2.2.1 v2 12 0 kv2 (by decide) (by decide))) hs0
  have hc0 := KC_fr f wo.1 kuS luS kv2 hru62 ku62 (by decide) (by decide) (by decide) (congrArg Int32.toInt (f.2.2.1 v2 12 0 kv2 (by decide) (by decide))) hc0
  have hs9 := ARr_same (f.2.2.2 uF 8 0 uR kuF hruR (by rw [kuR.2]; rfl) rfl (by decide)) (f.2.2.2 v2 12 1 vR kv2 hrvR (by rw [kvR.2]; rfl) rfl (by decide)) (congrArg Int32.toInt (f.2.2.1 v2 12 0 kv2 (by decide) (by decide))) hs9
  have hv0 := PRr_fr f kv1 kuA (eMf f kv2 hruV kuV rfl (by decide)) (by decide) (by decide) hv0
  have hk := HK_fr f kuS kv2 hruK kuK hruC kuC (by decide) (by decide) (by decide) (by decide) hk
  have hx := TBr_fr f kuT hruB kuB kv2 hruM kuM (by decide) (by decide) (by decide) (by decide) hx
  have ea291 := congrArg Int32.toInt (f.2.2.1 uF 8 9 kuF (by decide) (by decide))
  have ea292 := congrArg Int32.toInt (f.2.2.1 v2 12 0 kv2 (by decide) (by decide))
  have ea293 := congrArg Int32.toInt (f.2.2.1 v2 12 7 kv2 (by decide) (by decide))
  have ea294 := congrArg Int32.toInt (f.2.2.1 v1 11 4 kv1 (by decide) (by decide))
  have ea295 := congrArg Int32.toInt (f.2.2.1 v2 12 8 kv2 (by decide) (by decide))
  have hm1 := (f.2.1 uP 4 1 hpc.2.2.2.1 (by decide) (by decide)).trans hm1
  have hpc := PCs_x f.1 (fun a c j ka hc => f.2.1 a c j ka (by omega) (by omega)) kv1 hpc
  have hpm := PMs_x f.1 (fun j hj => f.2.1 v2 12 j kv2 (by omega) (by omega)) hpm
  have hru62 := (f.2.1 v2 12 62 kv2 (by decide) (by decide)).trans hru62
  have ku62 := (f.1 _ _ ku62).1
  have hruX := (f.2.1 uF 8 1 kuF (by decide) (by decide)).trans hruX
  have kuX := (f.1 _ _ kuX).1
  have hruY := (f.2.1 v2 12 2 kv2 (by decide) (by decide)).trans hruY
  have kuY := (f.1 _ _ kuY).1
  have hruR := (f.2.1 uF 8 0 kuF (by decide) (by decide)).trans hruR
  have kuR := (f.1 _ _ kuR).1
  have hrvR := (f.2.1 v2 12 1 kv2 (by decide) (by decide)).trans hrvR
  have kvR := (f.1 _ _ kvR).1
  have hruA := (f.2.1 v1 11 3 kv1 (by decide) (by decide)).trans hruA
  have kuA := (f.1 _ _ kuA).1
  have hruV := (f.2.1 v2 12 13 kv2 (by decide) (by decide)).trans hruV
  have kuV := (f.1 _ _ kuV).1
  have hruS := (f.2.1 v1 11 8 kv1 (by decide) (by decide)).trans hruS
  have luS := (f.1 _ _ kuS).2.trans luS
  have kuS := (f.1 _ _ kuS).1
  have hruK := (f.2.1 v2 12 63 kv2 (by decide) (by decide)).trans hruK
  have kuK := (f.1 _ _ kuK).1
  have hruC := (f.2.1 v2 12 64 kv2 (by decide) (by decide)).trans hruC
  have kuC := (f.1 _ _ kuC).1
  have hruB := (f.2.1 uT 10 0 kuT (by decide) (by decide)).trans hruB
  have hruM := (f.2.1 v2 12 18 kv2 (by decide) (by decide)).trans hruM
  have kuB := (f.1 _ _ kuB).1
  have kuM := (f.1 _ _ kuM).1
  have hruT := (f.2.1 v1 11 0 kv1 (by decide) (by decide)).trans hruT
  have kuT := (f.1 _ _ kuT).1
  have hruF := (f.2.1 v1 11 2 kv1 (by decide) (by decide)).trans hruF
  have kuF := (f.1 _ _ kuF).1
  have hl : jlen Z v3 = 1 := (f.1 _ _ kv3).2.trans hl
  have kv1 := (f.1 _ _ kv1).1
  have kv2 := (f.1 _ _ kv2).1
  have kv3 := (f.1 _ _ kv3).1
  unfold f_L_law_b1760
  intro x ex
  have tx : x.toInt = v4.toInt + 6 := by rw [ex]; exact i_add rfl (show (6 : Int32).toInt = 6 from rfl) (by omega) (by omega)
  exact hK _ _ _ x ex (LInv_mk (Z := Z) (I := I) T uT uB uM uF uS uK uC uA uV uX uY uR vR uP x0 x2 u5 u53 u54 u62 x1 uQ vQ uW vW t30 t29 u5c t6 t9 t10 t11 t12 ⟨w, bd, kv1, kv2, kv3, hl, ht, hruT, kuT, hruB, kuB, hruM⟩ ⟨kuM, hx, hruF, kuF, (by omega), (by omega), (by omega), hruS, kuS, luS, hruK, kuK⟩ ⟨hruC, kuC, hk, hruA, kuA, hruV, kuV, hv0, hruX, kuX, hruY, kuY⟩ ⟨hruR, kuR, hrvR, kvR, hs0, hc0, hs9, hpc, hpm, hru62, ku62, hp0⟩ ⟨hk2, hm1, hm0, hak, ha0, hwi, hlb, hfb, hpb, hsh⟩)
set_option maxHeartbeats 4000000 in
set_option maxRecDepth 100000 in
theorem k_b1285 {xs : Nat → Int32} {Ls : Nat} {B : Nat × Nat} {K : Nat → Nat → Nat → Int32 → jZ → jI → jL → Prop} {v1 v2 v3 : Nat} {v4 : Int32} {Z : jZ} {I : jI} {L : jL} {T uT uB uM uF uS uK uC uA uV uX uY uR vR uP x0 x2 u5 u53 u54 u62 x1 uQ vQ uW vW t30 t29 u5c t6 t9 t10 t11 t12 : Nat} (g0 : LG0 B v1 v2 v3 T uT uB uM Z I) (g1 : LG1 v1 v2 v4 uT uB uM uF uS uK Z I) (g2 : LG2 v1 v2 uF uS uK uC uA uV uX uY Z I) (g3 : LG3 v1 v2 uF uS uX uY uR vR uP x0 x2 u5 u53 u54 u62 Z I) (g4 : LG4 v1 v2 uF uS uA uP x0 u62 x1 uQ vQ uW vW t30 t29 u5c t6 t9 t10 t11 t12 Z I) (hv : 0 ≤ v4.toInt ∧ v4.toInt + 6 ≤ (Ls : Int) ∧ (Ls : Int) ≤ 3072) (hK : ∀ (Z : jZ) (I : jI) (L : jL) (x : Int32), x = v4 + 6 → LInv B v1 v2 v3 x Z I → K v1 v2 v3 x Z I L) : f_L_law_b1285 xs Ls B K v1 v2 v3 v4 Z I L := by
  obtain ⟨w, bd, kv1, kv2, kv3, hl, ht, hruT, kuT, hruB, kuB, hruM⟩ := g0
  obtain ⟨kuM, hx, hruF, kuF, hx1, hx2, hx3, hruS, kuS, luS, hruK, kuK⟩ := g1
  obtain ⟨hruC, kuC, hk, hruA, kuA, hruV, kuV, hv0, hruX, kuX, hruY, kuY⟩ := g2
  obtain ⟨hruR, kuR, hrvR, kvR, hs0, hc0, hs9, hpc, hpm, hru62, ku62, hp0⟩ := g3
  obtain ⟨hk2, hm1, hm0, hak, ha0, hwi, hlb, hfb, hpb, hsh⟩ := g4
  unfold f_L_law_b1285
  refine ⟨vi_of (i_add rfl (show (1 : Int32).toInt = 1 from rfl) (by omega) (by omega)) (by omega) (by omega), ?_⟩
  have wo := w
  refine s_X11_lamps w v1 _ kv1  (fun r1 I L w f => ?_)
  have ht : (I v1 4).toInt + (T : Int) = 6 := by rw [f.2.2.1 v1 11 4 kv1 (by decide) (by decide)]; exact ht
  have ha0 := ARr_same (f.2.2.2 uF 8 2 uQ kuF hak.1 (by rw [hak.2.1.2]; rfl) rfl (by decide)) (f.2.2.2 v2 12 3 vQ kv2 hak.2.2.1 (by rw [hak.2.2.2.1.2]; rfl) rfl (by decide)) (congrArg Int32.toInt (f.2.2.1 v2 12 0 kv2 (by decide) (by decide))) ha0
  have hwi := WI_fr f kuF kv2 (by decide) hwi
  have hlb := LB_fr f wo kuF kv2 (by decide) hlb
  have hfb := FB_fr f kuF kv2 (by decide) hfb
  have hpb := PB_fr f kv1 kuA kv2 (by decide) hpb
  have hsh : (I v2 39).toInt = -1 := by rw [f.2.2.1 v2 12 39 kv2 (by decide) (by decide)]; exact hsh
  have hak := AK_fr f wo kuF kv2 kuS luS hru62 ku62 (by decide) hak
  have hm0 := MAI_fr wo hpc.2.2.2.1 hpc.2.2.2.2.1 hm1 f (by decide) (by decide) hm0
  have hp0 := PR_same (EQC_fr f hpc (by decide)) (EQM_fr f kv2 hpm (by decide)) hp0
  have hk2 : KP2 Z I uS u62 (I v2 0).toInt.toNat := by rw [(f.2.2.1 v2 12 0 kv2 (by decide) (by decide))]; exact KP2_fr f wo.1 kuS luS kv2 hru62 ku62 (by decide) (by decide) (by decide) hk2
  have hs0 := ARr_same (f.2.2.2 uF 8 1 uX kuF hruX (by rw [kuX.2]; rfl) rfl (by decide)) (f.2.2.2 v2 12 2 uY kv2 hruY (by rw [kuY.2]; rfl) rfl (by decide)) (congrArg Int32.toInt (f.2.2.1 v2 12 0 kv2 (by decide) (by decide))) hs0
  have hc0 := KC_fr f wo.1 kuS luS kv2 hru62 ku62 (by decide) (by decide) (by decide) (congrArg Int32.toInt (f.2.2.1 v2 12 0 kv2 (by decide) (by decide))) hc0
  have hs9 := ARr_same (f.2.2.2 uF 8 0 uR kuF hruR (by rw [kuR.2]; rfl) rfl (by decide)) (f.2.2.2 v2 12 1 vR kv2 hrvR (by rw [kvR.2]; rfl) rfl (by decide)) (congrArg Int32.toInt (f.2.2.1 v2 12 0 kv2 (by decide) (by decide))) hs9
  have hv0 := PRr_fr f kv1 kuA (eMf f kv2 hruV kuV rfl (by decide)) (by decide) (by decide) hv0
  have hk := HK_fr f kuS kv2 hruK kuK hruC kuC (by decide) (by decide) (by decide) (by decide) hk
  have hx := TBr_fr f kuT hruB kuB kv2 hruM kuM (by decide) (by decide) (by decide) (by decide) hx
  have ea296 := congrArg Int32.toInt (f.2.2.1 uF 8 9 kuF (by decide) (by decide))
  have ea297 := congrArg Int32.toInt (f.2.2.1 v2 12 0 kv2 (by decide) (by decide))
  have ea298 := congrArg Int32.toInt (f.2.2.1 v2 12 7 kv2 (by decide) (by decide))
  have ea299 := congrArg Int32.toInt (f.2.2.1 v1 11 4 kv1 (by decide) (by decide))
  have ea300 := congrArg Int32.toInt (f.2.2.1 v2 12 8 kv2 (by decide) (by decide))
  refine ⟨vi_of (i_add rfl (show (1 : Int32).toInt = 1 from rfl) (by omega) (by omega)) (by omega) (by omega), ?_⟩
  have wo := w
  refine s_X12_lamps w v2 _ kv2  (fun r2 I L w f => ?_)
  have ht : (I v1 4).toInt + (T : Int) = 6 := by rw [f.2.2.1 v1 11 4 kv1 (by decide) (by decide)]; exact ht
  have ha0 := ARr_same (f.2.2.2 uF 8 2 uQ kuF hak.1 (by rw [hak.2.1.2]; rfl) rfl (by decide)) (f.2.2.2 v2 12 3 vQ kv2 hak.2.2.1 (by rw [hak.2.2.2.1.2]; rfl) rfl (by decide)) (congrArg Int32.toInt (f.2.2.1 v2 12 0 kv2 (by decide) (by decide))) ha0
  have hwi := WI_fr f kuF kv2 (by decide) hwi
  have hlb := LB_fr f wo kuF kv2 (by decide) hlb
  have hfb := FB_fr f kuF kv2 (by decide) hfb
  have hpb := PB_fr f kv1 kuA kv2 (by decide) hpb
  have hsh : (I v2 39).toInt = -1 := by rw [f.2.2.1 v2 12 39 kv2 (by decide) (by decide)]; exact hsh
  have hak := AK_fr f wo kuF kv2 kuS luS hru62 ku62 (by decide) hak
  have hm0 := MAI_fr wo hpc.2.2.2.1 hpc.2.2.2.2.1 hm1 f (by decide) (by decide) hm0
  have hp0 := PR_same (EQC_fr f hpc (by decide)) (EQM_fr f kv2 hpm (by decide)) hp0
  have hk2 : KP2 Z I uS u62 (I v2 0).toInt.toNat := by rw [(f.2.2.1 v2 12 0 kv2 (by decide) (by decide))]; exact KP2_fr f wo.1 kuS luS kv2 hru62 ku62 (by decide) (by decide) (by decide) hk2
  have hs0 := ARr_same (f.2.2.2 uF 8 1 uX kuF hruX (by rw [kuX.2]; rfl) rfl (by decide)) (f.2.2.2 v2 12 2 uY kv2 hruY (by rw [kuY.2]; rfl) rfl (by decide)) (congrArg Int32.toInt (f.2.2.1 v2 12 0 kv2 (by decide) (by decide))) hs0
  have hc0 := KC_fr f wo.1 kuS luS kv2 hru62 ku62 (by decide) (by decide) (by decide) (congrArg Int32.toInt (f.2.2.1 v2 12 0 kv2 (by decide) (by decide))) hc0
  have hs9 := ARr_same (f.2.2.2 uF 8 0 uR kuF hruR (by rw [kuR.2]; rfl) rfl (by decide)) (f.2.2.2 v2 12 1 vR kv2 hrvR (by rw [kvR.2]; rfl) rfl (by decide)) (congrArg Int32.toInt (f.2.2.1 v2 12 0 kv2 (by decide) (by decide))) hs9
  have hv0 := PRr_fr f kv1 kuA (eMf f kv2 hruV kuV rfl (by decide)) (by decide) (by decide) hv0
  have hk := HK_fr f kuS kv2 hruK kuK hruC kuC (by decide) (by decide) (by decide) (by decide) hk
  have hx := TBr_fr f kuT hruB kuB kv2 hruM kuM (by decide) (by decide) (by decide) (by decide) hx
  have ea301 := congrArg Int32.toInt (f.2.2.1 uF 8 9 kuF (by decide) (by decide))
  have ea302 := congrArg Int32.toInt (f.2.2.1 v2 12 0 kv2 (by decide) (by decide))
  have ea303 := congrArg Int32.toInt (f.2.2.1 v2 12 7 kv2 (by decide) (by decide))
  have ea304 := congrArg Int32.toInt (f.2.2.1 v1 11 4 kv1 (by decide) (by decide))
  have ea305 := congrArg Int32.toInt (f.2.2.1 v2 12 8 kv2 (by decide) (by decide))
  unfold f_L_law_b1760
  intro x ex
  have tx : x.toInt = v4.toInt + 6 := by rw [ex]; exact i_add rfl (show (6 : Int32).toInt = 6 from rfl) (by omega) (by omega)
  exact hK _ _ _ x ex (LInv_mk (Z := Z) (I := I) T uT uB uM uF uS uK uC uA uV uX uY uR vR uP x0 x2 u5 u53 u54 u62 x1 uQ vQ uW vW t30 t29 u5c t6 t9 t10 t11 t12 ⟨w, bd, kv1, kv2, kv3, hl, ht, hruT, kuT, hruB, kuB, hruM⟩ ⟨kuM, hx, hruF, kuF, (by omega), (by omega), (by omega), hruS, kuS, luS, hruK, kuK⟩ ⟨hruC, kuC, hk, hruA, kuA, hruV, kuV, hv0, hruX, kuX, hruY, kuY⟩ ⟨hruR, kuR, hrvR, kvR, hs0, hc0, hs9, hpc, hpm, hru62, ku62, hp0⟩ ⟨hk2, hm1, hm0, hak, ha0, hwi, hlb, hfb, hpb, hsh⟩)
set_option maxHeartbeats 4000000 in
set_option maxRecDepth 100000 in
theorem k_b1310 {xs : Nat → Int32} {Ls : Nat} {B : Nat × Nat} {K : Nat → Nat → Nat → Int32 → jZ → jI → jL → Prop} {v1 v2 v3 : Nat} {v4 : Int32} {Z : jZ} {I : jI} {L : jL} {T uT uB uM uF uS uK uC uA uV uX uY uR vR uP x0 x2 u5 u53 u54 u62 x1 uQ vQ uW vW t30 t29 u5c t6 t9 t10 t11 t12 : Nat} (g0 : LG0 B v1 v2 v3 T uT uB uM Z I) (g1 : LG1 v1 v2 v4 uT uB uM uF uS uK Z I) (g2 : LG2 v1 v2 uF uS uK uC uA uV uX uY Z I) (g3 : LG3 v1 v2 uF uS uX uY uR vR uP x0 x2 u5 u53 u54 u62 Z I) (g4 : LG4 v1 v2 uF uS uA uP x0 u62 x1 uQ vQ uW vW t30 t29 u5c t6 t9 t10 t11 t12 Z I) (hv : 0 ≤ v4.toInt ∧ v4.toInt + 6 ≤ (Ls : Int) ∧ (Ls : Int) ≤ 3072) (hK : ∀ (Z : jZ) (I : jI) (L : jL) (x : Int32), x = v4 + 6 → LInv B v1 v2 v3 x Z I → K v1 v2 v3 x Z I L) : f_L_law_b1310 xs Ls B K v1 v2 v3 v4 Z I L := by
  obtain ⟨w, bd, kv1, kv2, kv3, hl, ht, hruT, kuT, hruB, kuB, hruM⟩ := g0
  obtain ⟨kuM, hx, hruF, kuF, hx1, hx2, hx3, hruS, kuS, luS, hruK, kuK⟩ := g1
  obtain ⟨hruC, kuC, hk, hruA, kuA, hruV, kuV, hv0, hruX, kuX, hruY, kuY⟩ := g2
  obtain ⟨hruR, kuR, hrvR, kvR, hs0, hc0, hs9, hpc, hpm, hru62, ku62, hp0⟩ := g3
  obtain ⟨hk2, hm1, hm0, hak, ha0, hwi, hlb, hfb, hpb, hsh⟩ := g4
  unfold f_L_law_b1310
  refine ⟨vi_of (i_add rfl (show (1 : Int32).toInt = 1 from rfl) (by omega) (by omega)) (by omega) (by omega), ?_⟩
  refine ⟨vi_of (i_add rfl (show (2 : Int32).toInt = 2 from rfl) (by omega) (by omega)) (by omega) (by omega), ?_⟩
  have wo := w
  obtain ⟨uFe, uL0, uC0, uL1, uC1, p13, p14, q0, q1, SM⟩ := SAM_of w kv1 kv2 hruR hruX hrvR hruY hruA hruV hpc hpm hm1 hx1 hx3 hs9 hs0 hak ha0 hwi hlb hfb hpb hv0 hp0.1 hm0 hsh
  refine SAM_would1 SM bd _ _ (fun r1 Z I L w bd f cp tk => ?_)
  have ht : (I v1 4).toInt + (T : Int) = 6 := by rw [f.2.2.1 v1 11 4 kv1 (by decide) (by decide)]; exact ht
  have hwi := WI_fr f kuF kv2 (by decide) hwi
  have hlb := LB_fr f wo kuF kv2 (by decide) hlb
  have hfb := FB_fr f kuF kv2 (by decide) hfb
  have hpb := PB_fr f kv1 kuA kv2 (by decide) hpb
  have hsh : (I v2 39).toInt = -1 := by rw [f.2.2.1 v2 12 39 kv2 (by decide) (by decide)]; exact hsh
  have hak := AK_fr f wo kuF kv2 kuS luS hru62 ku62 (by decide) hak
  have hm0 := MAI_fr wo hpc.2.2.2.1 hpc.2.2.2.2.1 hm1 f (by decide) (by decide) hm0
  have hp0 := PR_same (EQC_fr f hpc (by decide)) (EQM_fr f kv2 hpm (by decide)) hp0
  have hk2 : KP2 Z I uS u62 (I v2 0).toInt.toNat := by rw [(f.2.2.1 v2 12 0 kv2 (by decide) (by decide))]; exact KP2_fr f wo.1 kuS luS kv2 hru62 ku62 (by decide) (by decide) (by decide) hk2
  have hs0 := ARr_same (f.2.2.2 uF 8 1 uX kuF hruX (by rw [kuX.2]; rfl) rfl (by decide)) (f.2.2.2 v2 12 2 uY kv2 hruY (by rw [kuY.2]; rfl) rfl (by decide)) (congrArg Int32.toInt (f.2.2.1 v2 12 0 kv2 (by decide) (by decide))) hs0
  have hc0 := KC_fr f wo.1 kuS luS kv2 hru62 ku62 (by decide) (by decide) (by decide) (congrArg Int32.toInt (f.2.2.1 v2 12 0 kv2 (by decide) (by decide))) hc0
  have hs9 := ARr_same (f.2.2.2 uF 8 0 uR kuF hruR (by rw [kuR.2]; rfl) rfl (by decide)) (f.2.2.2 v2 12 1 vR kv2 hrvR (by rw [kvR.2]; rfl) rfl (by decide)) (congrArg Int32.toInt (f.2.2.1 v2 12 0 kv2 (by decide) (by decide))) hs9
  have hv0 := PRr_fr f kv1 kuA (eMf f kv2 hruV kuV rfl (by decide)) (by decide) (by decide) hv0
  have hk := HK_fr f kuS kv2 hruK kuK hruC kuC (by decide) (by decide) (by decide) (by decide) hk
  have hx := TBr_fr f kuT hruB kuB kv2 hruM kuM (by decide) (by decide) (by decide) (by decide) hx
  have ea306 := congrArg Int32.toInt (f.2.2.1 uF 8 9 kuF (by decide) (by decide))
  have ea307 := congrArg Int32.toInt (f.2.2.1 v2 12 0 kv2 (by decide) (by decide))
  have ea308 := congrArg Int32.toInt (f.2.2.1 v2 12 7 kv2 (by decide) (by decide))
  have ea309 := congrArg Int32.toInt (f.2.2.1 v1 11 4 kv1 (by decide) (by decide))
  have ea310 := congrArg Int32.toInt (f.2.2.1 v2 12 8 kv2 (by decide) (by decide))
  have hm1 := (f.2.1 uP 4 1 hpc.2.2.2.1 (by decide) (by decide)).trans hm1
  have hpc := PCs_x f.1 (fun a c j ka hc => f.2.1 a c j ka (by omega) (by omega)) kv1 hpc
  have hpm := PMs_x f.1 (fun j hj => f.2.1 v2 12 j kv2 (by omega) (by omega)) hpm
  have hru62 := (f.2.1 v2 12 62 kv2 (by decide) (by decide)).trans hru62
  have ku62 := (f.1 _ _ ku62).1
  have hruX := (f.2.1 uF 8 1 kuF (by decide) (by decide)).trans hruX
  have kuX := (f.1 _ _ kuX).1
  have hruY := (f.2.1 v2 12 2 kv2 (by decide) (by decide)).trans hruY
  have kuY := (f.1 _ _ kuY).1
  have hruR := (f.2.1 uF 8 0 kuF (by decide) (by decide)).trans hruR
  have kuR := (f.1 _ _ kuR).1
  have hrvR := (f.2.1 v2 12 1 kv2 (by decide) (by decide)).trans hrvR
  have kvR := (f.1 _ _ kvR).1
  have hruA := (f.2.1 v1 11 3 kv1 (by decide) (by decide)).trans hruA
  have kuA := (f.1 _ _ kuA).1
  have hruV := (f.2.1 v2 12 13 kv2 (by decide) (by decide)).trans hruV
  have kuV := (f.1 _ _ kuV).1
  have hruS := (f.2.1 v1 11 8 kv1 (by decide) (by decide)).trans hruS
  have luS := (f.1 _ _ kuS).2.trans luS
  have kuS := (f.1 _ _ kuS).1
  have hruK := (f.2.1 v2 12 63 kv2 (by decide) (by decide)).trans hruK
  have kuK := (f.1 _ _ kuK).1
  have hruC := (f.2.1 v2 12 64 kv2 (by decide) (by decide)).trans hruC
  have kuC := (f.1 _ _ kuC).1
  have hruB := (f.2.1 uT 10 0 kuT (by decide) (by decide)).trans hruB
  have hruM := (f.2.1 v2 12 18 kv2 (by decide) (by decide)).trans hruM
  have kuB := (f.1 _ _ kuB).1
  have kuM := (f.1 _ _ kuM).1
  have hruT := (f.2.1 v1 11 0 kv1 (by decide) (by decide)).trans hruT
  have kuT := (f.1 _ _ kuT).1
  have hruF := (f.2.1 v1 11 2 kv1 (by decide) (by decide)).trans hruF
  have kuF := (f.1 _ _ kuF).1
  have hl : jlen Z v3 = 1 := (f.1 _ _ kv3).2.trans hl
  have kv1 := (f.1 _ _ kv1).1
  have kv2 := (f.1 _ _ kv2).1
  have kv3 := (f.1 _ _ kv3).1
  refine ⟨vi_of (i_add rfl (show (1 : Int32).toInt = 1 from rfl) (by omega) (by omega)) (by omega) (by omega), ?_⟩
  refine ⟨vi_of (i_add rfl (show (2 : Int32).toInt = 2 from rfl) (by omega) (by omega)) (by omega) (by omega), ?_⟩
  have wo := w
  refine tk _ _ (fun r2 Z I L er w bd f cp ha9 => ?_)
  have ht : (I v1 4).toInt + (T : Int) = 6 := by rw [f.2.2.1 v1 11 4 kv1 (by decide) (by decide)]; exact ht
  have ha0 := ha9
  have hwi := WI_fr f kuF kv2 (by decide) hwi
  have hlb := LB_fr f wo kuF kv2 (by decide) hlb
  have hfb := FB_fr f kuF kv2 (by decide) hfb
  have hpb := PB_fr f kv1 kuA kv2 (by decide) hpb
  have hsh : (I v2 39).toInt = -1 := by rw [f.2.2.1 v2 12 39 kv2 (by decide) (by decide)]; exact hsh
  have hak := AK_fr f wo kuF kv2 kuS luS hru62 ku62 (by decide) hak
  have hm0 := MAI_fr wo hpc.2.2.2.1 hpc.2.2.2.2.1 hm1 f (by decide) (by decide) hm0
  have hp0 := PR_same (EQC_fr f hpc (by decide)) (EQM_fr f kv2 hpm (by decide)) hp0
  have hk2 : KP2 Z I uS u62 (I v2 0).toInt.toNat := by rw [(f.2.2.1 v2 12 0 kv2 (by decide) (by decide))]; exact KP2_fr f wo.1 kuS luS kv2 hru62 ku62 (by decide) (by decide) (by decide) hk2
  have hs0 := ARr_same (f.2.2.2 uF 8 1 uX kuF hruX (by rw [kuX.2]; rfl) rfl (by decide)) (f.2.2.2 v2 12 2 uY kv2 hruY (by rw [kuY.2]; rfl) rfl (by decide)) (congrArg Int32.toInt (f.2.2.1 v2 12 0 kv2 (by decide) (by decide))) hs0
  have hc0 := KC_fr f wo.1 kuS luS kv2 hru62 ku62 (by decide) (by decide) (by decide) (congrArg Int32.toInt (f.2.2.1 v2 12 0 kv2 (by decide) (by decide))) hc0
  have hs9 := ARr_same (f.2.2.2 uF 8 0 uR kuF hruR (by rw [kuR.2]; rfl) rfl (by decide)) (f.2.2.2 v2 12 1 vR kv2 hrvR (by rw [kvR.2]; rfl) rfl (by decide)) (congrArg Int32.toInt (f.2.2.1 v2 12 0 kv2 (by decide) (by decide))) hs9
  have hv0 := PRr_fr f kv1 kuA (eMf f kv2 hruV kuV rfl (by decide)) (by decide) (by decide) hv0
  have hk := HK_fr f kuS kv2 hruK kuK hruC kuC (by decide) (by decide) (by decide) (by decide) hk
  have hx := TBr_fr f kuT hruB kuB kv2 hruM kuM (by decide) (by decide) (by decide) (by decide) hx
  have ea311 := congrArg Int32.toInt (f.2.2.1 uF 8 9 kuF (by decide) (by decide))
  have ea312 := congrArg Int32.toInt (f.2.2.1 v2 12 0 kv2 (by decide) (by decide))
  have ea313 := congrArg Int32.toInt (f.2.2.1 v2 12 7 kv2 (by decide) (by decide))
  have ea314 := congrArg Int32.toInt (f.2.2.1 v1 11 4 kv1 (by decide) (by decide))
  have ea315 := congrArg Int32.toInt (f.2.2.1 v2 12 8 kv2 (by decide) (by decide))
  have hm1 := (f.2.1 uP 4 1 hpc.2.2.2.1 (by decide) (by decide)).trans hm1
  have hpc := PCs_x f.1 (fun a c j ka hc => f.2.1 a c j ka (by omega) (by omega)) kv1 hpc
  have hpm := PMs_x f.1 (fun j hj => f.2.1 v2 12 j kv2 (by omega) (by omega)) hpm
  have hru62 := (f.2.1 v2 12 62 kv2 (by decide) (by decide)).trans hru62
  have ku62 := (f.1 _ _ ku62).1
  have hruX := (f.2.1 uF 8 1 kuF (by decide) (by decide)).trans hruX
  have kuX := (f.1 _ _ kuX).1
  have hruY := (f.2.1 v2 12 2 kv2 (by decide) (by decide)).trans hruY
  have kuY := (f.1 _ _ kuY).1
  have hruR := (f.2.1 uF 8 0 kuF (by decide) (by decide)).trans hruR
  have kuR := (f.1 _ _ kuR).1
  have hrvR := (f.2.1 v2 12 1 kv2 (by decide) (by decide)).trans hrvR
  have kvR := (f.1 _ _ kvR).1
  have hruA := (f.2.1 v1 11 3 kv1 (by decide) (by decide)).trans hruA
  have kuA := (f.1 _ _ kuA).1
  have hruV := (f.2.1 v2 12 13 kv2 (by decide) (by decide)).trans hruV
  have kuV := (f.1 _ _ kuV).1
  have hruS := (f.2.1 v1 11 8 kv1 (by decide) (by decide)).trans hruS
  have luS := (f.1 _ _ kuS).2.trans luS
  have kuS := (f.1 _ _ kuS).1
  have hruK := (f.2.1 v2 12 63 kv2 (by decide) (by decide)).trans hruK
  have kuK := (f.1 _ _ kuK).1
  have hruC := (f.2.1 v2 12 64 kv2 (by decide) (by decide)).trans hruC
  have kuC := (f.1 _ _ kuC).1
  have hruB := (f.2.1 uT 10 0 kuT (by decide) (by decide)).trans hruB
  have hruM := (f.2.1 v2 12 18 kv2 (by decide) (by decide)).trans hruM
  have kuB := (f.1 _ _ kuB).1
  have kuM := (f.1 _ _ kuM).1
  have hruT := (f.2.1 v1 11 0 kv1 (by decide) (by decide)).trans hruT
  have kuT := (f.1 _ _ kuT).1
  have hruF := (f.2.1 v1 11 2 kv1 (by decide) (by decide)).trans hruF
  have kuF := (f.1 _ _ kuF).1
  have hl : jlen Z v3 = 1 := (f.1 _ _ kv3).2.trans hl
  have kv1 := (f.1 _ _ kv1).1
  have kv2 := (f.1 _ _ kv2).1
  have kv3 := (f.1 _ _ kv3).1
  unfold f_L_law_b1760
  intro x ex
  have tx : x.toInt = v4.toInt + 6 := by rw [ex]; exact i_add rfl (show (6 : Int32).toInt = 6 from rfl) (by omega) (by omega)
  exact hK _ _ _ x ex (LInv_mk (Z := Z) (I := I) T uT uB uM uF uS uK uC uA uV uX uY uR vR uP x0 x2 u5 u53 u54 u62 x1 uQ vQ uW vW t30 t29 u5c t6 t9 t10 t11 t12 ⟨w, bd, kv1, kv2, kv3, hl, ht, hruT, kuT, hruB, kuB, hruM⟩ ⟨kuM, hx, hruF, kuF, (by omega), (by omega), (by omega), hruS, kuS, luS, hruK, kuK⟩ ⟨hruC, kuC, hk, hruA, kuA, hruV, kuV, hv0, hruX, kuX, hruY, kuY⟩ ⟨hruR, kuR, hrvR, kvR, hs0, hc0, hs9, hpc, hpm, hru62, ku62, hp0⟩ ⟨hk2, hm1, hm0, hak, ha0, hwi, hlb, hfb, hpb, hsh⟩)
set_option maxHeartbeats 4000000 in
set_option maxRecDepth 100000 in
theorem k_b1347 {xs : Nat → Int32} {Ls : Nat} {B : Nat × Nat} {K : Nat → Nat → Nat → Int32 → jZ → jI → jL → Prop} {v1 v2 v3 : Nat} {v4 : Int32} {Z : jZ} {I : jI} {L : jL} {T uT uB uM uF uS uK uC uA uV uX uY uR vR uP x0 x2 u5 u53 u54 u62 x1 uQ vQ uW vW t30 t29 u5c t6 t9 t10 t11 t12 : Nat} (g0 : LG0 B v1 v2 v3 T uT uB uM Z I) (g1 : LG1 v1 v2 v4 uT uB uM uF uS uK Z I) (g2 : LG2 v1 v2 uF uS uK uC uA uV uX uY Z I) (g3 : LG3 v1 v2 uF uS uX uY uR vR uP x0 x2 u5 u53 u54 u62 Z I) (g4 : LG4 v1 v2 uF uS uA uP x0 u62 x1 uQ vQ uW vW t30 t29 u5c t6 t9 t10 t11 t12 Z I) (hv : 0 ≤ v4.toInt ∧ v4.toInt + 6 ≤ (Ls : Int) ∧ (Ls : Int) ≤ 3072) (hK : ∀ (Z : jZ) (I : jI) (L : jL) (x : Int32), x = v4 + 6 → LInv B v1 v2 v3 x Z I → K v1 v2 v3 x Z I L) : f_L_law_b1347 xs Ls B K v1 v2 v3 v4 Z I L := by
  obtain ⟨w, bd, kv1, kv2, kv3, hl, ht, hruT, kuT, hruB, kuB, hruM⟩ := g0
  obtain ⟨kuM, hx, hruF, kuF, hx1, hx2, hx3, hruS, kuS, luS, hruK, kuK⟩ := g1
  obtain ⟨hruC, kuC, hk, hruA, kuA, hruV, kuV, hv0, hruX, kuX, hruY, kuY⟩ := g2
  obtain ⟨hruR, kuR, hrvR, kvR, hs0, hc0, hs9, hpc, hpm, hru62, ku62, hp0⟩ := g3
  obtain ⟨hk2, hm1, hm0, hak, ha0, hwi, hlb, hfb, hpb, hsh⟩ := g4
  unfold f_L_law_b1347
  refine ⟨vi_of (i_add rfl (show (1 : Int32).toInt = 1 from rfl) (by omega) (by omega)) (by omega) (by omega), ?_⟩
  have wo := w
  obtain ⟨uFe, uL0, uC0, uL1, uC1, p13, p14, q0, q1, SM⟩ := SAM_of w kv1 kv2 hruR hruX hrvR hruY hruA hruV hpc hpm hm1 hx1 hx3 hs9 hs0 hak ha0 hwi hlb hfb hpb hv0 hp0.1 hm0 hsh
  refine SAM_best1 SM bd _ (fun r1 Z I L w bd f cp tk => ?_)
  have ht : (I v1 4).toInt + (T : Int) = 6 := by rw [f.2.2.1 v1 11 4 kv1 (by decide) (by decide)]; exact ht
  have hwi := WI_fr f kuF kv2 (by decide) hwi
  have hlb := LB_fr f wo kuF kv2 (by decide) hlb
  have hfb := FB_fr f kuF kv2 (by decide) hfb
  have hpb := PB_fr f kv1 kuA kv2 (by decide) hpb
  have hsh : (I v2 39).toInt = -1 := by rw [f.2.2.1 v2 12 39 kv2 (by decide) (by decide)]; exact hsh
  have hak := AK_fr f wo kuF kv2 kuS luS hru62 ku62 (by decide) hak
  have hm0 := MAI_fr wo hpc.2.2.2.1 hpc.2.2.2.2.1 hm1 f (by decide) (by decide) hm0
  have hp0 := PR_same (EQC_fr f hpc (by decide)) (EQM_fr f kv2 hpm (by decide)) hp0
  have hk2 : KP2 Z I uS u62 (I v2 0).toInt.toNat := by rw [(f.2.2.1 v2 12 0 kv2 (by decide) (by decide))]; exact KP2_fr f wo.1 kuS luS kv2 hru62 ku62 (by decide) (by decide) (by decide) hk2
  have hs0 := ARr_same (f.2.2.2 uF 8 1 uX kuF hruX (by rw [kuX.2]; rfl) rfl (by decide)) (f.2.2.2 v2 12 2 uY kv2 hruY (by rw [kuY.2]; rfl) rfl (by decide)) (congrArg Int32.toInt (f.2.2.1 v2 12 0 kv2 (by decide) (by decide))) hs0
  have hc0 := KC_fr f wo.1 kuS luS kv2 hru62 ku62 (by decide) (by decide) (by decide) (congrArg Int32.toInt (f.2.2.1 v2 12 0 kv2 (by decide) (by decide))) hc0
  have hs9 := ARr_same (f.2.2.2 uF 8 0 uR kuF hruR (by rw [kuR.2]; rfl) rfl (by decide)) (f.2.2.2 v2 12 1 vR kv2 hrvR (by rw [kvR.2]; rfl) rfl (by decide)) (congrArg Int32.toInt (f.2.2.1 v2 12 0 kv2 (by decide) (by decide))) hs9
  have hv0 := PRr_fr f kv1 kuA (eMf f kv2 hruV kuV rfl (by decide)) (by decide) (by decide) hv0
  have hk := HK_fr f kuS kv2 hruK kuK hruC kuC (by decide) (by decide) (by decide) (by decide) hk
  have hx := TBr_fr f kuT hruB kuB kv2 hruM kuM (by decide) (by decide) (by decide) (by decide) hx
  have ea316 := congrArg Int32.toInt (f.2.2.1 uF 8 9 kuF (by decide) (by decide))
  have ea317 := congrArg Int32.toInt (f.2.2.1 v2 12 0 kv2 (by decide) (by decide))
  have ea318 := congrArg Int32.toInt (f.2.2.1 v2 12 7 kv2 (by decide) (by decide))
  have ea319 := congrArg Int32.toInt (f.2.2.1 v1 11 4 kv1 (by decide) (by decide))
  have ea320 := congrArg Int32.toInt (f.2.2.1 v2 12 8 kv2 (by decide) (by decide))
  have hm1 := (f.2.1 uP 4 1 hpc.2.2.2.1 (by decide) (by decide)).trans hm1
  have hpc := PCs_x f.1 (fun a c j ka hc => f.2.1 a c j ka (by omega) (by omega)) kv1 hpc
  have hpm := PMs_x f.1 (fun j hj => f.2.1 v2 12 j kv2 (by omega) (by omega)) hpm
  have hru62 := (f.2.1 v2 12 62 kv2 (by decide) (by decide)).trans hru62
  have ku62 := (f.1 _ _ ku62).1
  have hruX := (f.2.1 uF 8 1 kuF (by decide) (by decide)).trans hruX
  have kuX := (f.1 _ _ kuX).1
  have hruY := (f.2.1 v2 12 2 kv2 (by decide) (by decide)).trans hruY
  have kuY := (f.1 _ _ kuY).1
  have hruR := (f.2.1 uF 8 0 kuF (by decide) (by decide)).trans hruR
  have kuR := (f.1 _ _ kuR).1
  have hrvR := (f.2.1 v2 12 1 kv2 (by decide) (by decide)).trans hrvR
  have kvR := (f.1 _ _ kvR).1
  have hruA := (f.2.1 v1 11 3 kv1 (by decide) (by decide)).trans hruA
  have kuA := (f.1 _ _ kuA).1
  have hruV := (f.2.1 v2 12 13 kv2 (by decide) (by decide)).trans hruV
  have kuV := (f.1 _ _ kuV).1
  have hruS := (f.2.1 v1 11 8 kv1 (by decide) (by decide)).trans hruS
  have luS := (f.1 _ _ kuS).2.trans luS
  have kuS := (f.1 _ _ kuS).1
  have hruK := (f.2.1 v2 12 63 kv2 (by decide) (by decide)).trans hruK
  have kuK := (f.1 _ _ kuK).1
  have hruC := (f.2.1 v2 12 64 kv2 (by decide) (by decide)).trans hruC
  have kuC := (f.1 _ _ kuC).1
  have hruB := (f.2.1 uT 10 0 kuT (by decide) (by decide)).trans hruB
  have hruM := (f.2.1 v2 12 18 kv2 (by decide) (by decide)).trans hruM
  have kuB := (f.1 _ _ kuB).1
  have kuM := (f.1 _ _ kuM).1
  have hruT := (f.2.1 v1 11 0 kv1 (by decide) (by decide)).trans hruT
  have kuT := (f.1 _ _ kuT).1
  have hruF := (f.2.1 v1 11 2 kv1 (by decide) (by decide)).trans hruF
  have kuF := (f.1 _ _ kuF).1
  have hl : jlen Z v3 = 1 := (f.1 _ _ kv3).2.trans hl
  have kv1 := (f.1 _ _ kv1).1
  have kv2 := (f.1 _ _ kv2).1
  have kv3 := (f.1 _ _ kv3).1
  refine ⟨vi_of (i_add rfl (show (1 : Int32).toInt = 1 from rfl) (by omega) (by omega)) (by omega) (by omega), ?_⟩
  have wo := w
  refine tk _ _ (fun r2 Z I L er w bd f cp ha9 => ?_)
  have ht : (I v1 4).toInt + (T : Int) = 6 := by rw [f.2.2.1 v1 11 4 kv1 (by decide) (by decide)]; exact ht
  have ha0 := ha9
  have hwi := WI_fr f kuF kv2 (by decide) hwi
  have hlb := LB_fr f wo kuF kv2 (by decide) hlb
  have hfb := FB_fr f kuF kv2 (by decide) hfb
  have hpb := PB_fr f kv1 kuA kv2 (by decide) hpb
  have hsh : (I v2 39).toInt = -1 := by rw [f.2.2.1 v2 12 39 kv2 (by decide) (by decide)]; exact hsh
  have hak := AK_fr f wo kuF kv2 kuS luS hru62 ku62 (by decide) hak
  have hm0 := MAI_fr wo hpc.2.2.2.1 hpc.2.2.2.2.1 hm1 f (by decide) (by decide) hm0
  have hp0 := PR_same (EQC_fr f hpc (by decide)) (EQM_fr f kv2 hpm (by decide)) hp0
  have hk2 : KP2 Z I uS u62 (I v2 0).toInt.toNat := by rw [(f.2.2.1 v2 12 0 kv2 (by decide) (by decide))]; exact KP2_fr f wo.1 kuS luS kv2 hru62 ku62 (by decide) (by decide) (by decide) hk2
  have hs0 := ARr_same (f.2.2.2 uF 8 1 uX kuF hruX (by rw [kuX.2]; rfl) rfl (by decide)) (f.2.2.2 v2 12 2 uY kv2 hruY (by rw [kuY.2]; rfl) rfl (by decide)) (congrArg Int32.toInt (f.2.2.1 v2 12 0 kv2 (by decide) (by decide))) hs0
  have hc0 := KC_fr f wo.1 kuS luS kv2 hru62 ku62 (by decide) (by decide) (by decide) (congrArg Int32.toInt (f.2.2.1 v2 12 0 kv2 (by decide) (by decide))) hc0
  have hs9 := ARr_same (f.2.2.2 uF 8 0 uR kuF hruR (by rw [kuR.2]; rfl) rfl (by decide)) (f.2.2.2 v2 12 1 vR kv2 hrvR (by rw [kvR.2]; rfl) rfl (by decide)) (congrArg Int32.toInt (f.2.2.1 v2 12 0 kv2 (by decide) (by decide))) hs9
  have hv0 := PRr_fr f kv1 kuA (eMf f kv2 hruV kuV rfl (by decide)) (by decide) (by decide) hv0
  have hk := HK_fr f kuS kv2 hruK kuK hruC kuC (by decide) (by decide) (by decide) (by decide) hk
  have hx := TBr_fr f kuT hruB kuB kv2 hruM kuM (by decide) (by decide) (by decide) (by decide) hx
  have ea321 := congrArg Int32.toInt (f.2.2.1 uF 8 9 kuF (by decide) (by decide))
  have ea322 := congrArg Int32.toInt (f.2.2.1 v2 12 0 kv2 (by decide) (by decide))
  have ea323 := congrArg Int32.toInt (f.2.2.1 v2 12 7 kv2 (by decide) (by decide))
  have ea324 := congrArg Int32.toInt (f.2.2.1 v1 11 4 kv1 (by decide) (by decide))
  have ea325 := congrArg Int32.toInt (f.2.2.1 v2 12 8 kv2 (by decide) (by decide))
  have hm1 := (f.2.1 uP 4 1 hpc.2.2.2.1 (by decide) (by decide)).trans hm1
  have hpc := PCs_x f.1 (fun a c j ka hc => f.2.1 a c j ka (by omega) (by omega)) kv1 hpc
  have hpm := PMs_x f.1 (fun j hj => f.2.1 v2 12 j kv2 (by omega) (by omega)) hpm
  have hru62 := (f.2.1 v2 12 62 kv2 (by decide) (by decide)).trans hru62
  have ku62 := (f.1 _ _ ku62).1
  have hruX := (f.2.1 uF 8 1 kuF (by decide) (by decide)).trans hruX
  have kuX := (f.1 _ _ kuX).1
  have hruY := (f.2.1 v2 12 2 kv2 (by decide) (by decide)).trans hruY
  have kuY := (f.1 _ _ kuY).1
  have hruR := (f.2.1 uF 8 0 kuF (by decide) (by decide)).trans hruR
  have kuR := (f.1 _ _ kuR).1
  have hrvR := (f.2.1 v2 12 1 kv2 (by decide) (by decide)).trans hrvR
  have kvR := (f.1 _ _ kvR).1
  have hruA := (f.2.1 v1 11 3 kv1 (by decide) (by decide)).trans hruA
  have kuA := (f.1 _ _ kuA).1
  have hruV := (f.2.1 v2 12 13 kv2 (by decide) (by decide)).trans hruV
  have kuV := (f.1 _ _ kuV).1
  have hruS := (f.2.1 v1 11 8 kv1 (by decide) (by decide)).trans hruS
  have luS := (f.1 _ _ kuS).2.trans luS
  have kuS := (f.1 _ _ kuS).1
  have hruK := (f.2.1 v2 12 63 kv2 (by decide) (by decide)).trans hruK
  have kuK := (f.1 _ _ kuK).1
  have hruC := (f.2.1 v2 12 64 kv2 (by decide) (by decide)).trans hruC
  have kuC := (f.1 _ _ kuC).1
  have hruB := (f.2.1 uT 10 0 kuT (by decide) (by decide)).trans hruB
  have hruM := (f.2.1 v2 12 18 kv2 (by decide) (by decide)).trans hruM
  have kuB := (f.1 _ _ kuB).1
  have kuM := (f.1 _ _ kuM).1
  have hruT := (f.2.1 v1 11 0 kv1 (by decide) (by decide)).trans hruT
  have kuT := (f.1 _ _ kuT).1
  have hruF := (f.2.1 v1 11 2 kv1 (by decide) (by decide)).trans hruF
  have kuF := (f.1 _ _ kuF).1
  have hl : jlen Z v3 = 1 := (f.1 _ _ kv3).2.trans hl
  have kv1 := (f.1 _ _ kv1).1
  have kv2 := (f.1 _ _ kv2).1
  have kv3 := (f.1 _ _ kv3).1
  unfold f_L_law_b1760
  intro x ex
  have tx : x.toInt = v4.toInt + 6 := by rw [ex]; exact i_add rfl (show (6 : Int32).toInt = 6 from rfl) (by omega) (by omega)
  exact hK _ _ _ x ex (LInv_mk (Z := Z) (I := I) T uT uB uM uF uS uK uC uA uV uX uY uR vR uP x0 x2 u5 u53 u54 u62 x1 uQ vQ uW vW t30 t29 u5c t6 t9 t10 t11 t12 ⟨w, bd, kv1, kv2, kv3, hl, ht, hruT, kuT, hruB, kuB, hruM⟩ ⟨kuM, hx, hruF, kuF, (by omega), (by omega), (by omega), hruS, kuS, luS, hruK, kuK⟩ ⟨hruC, kuC, hk, hruA, kuA, hruV, kuV, hv0, hruX, kuX, hruY, kuY⟩ ⟨hruR, kuR, hrvR, kvR, hs0, hc0, hs9, hpc, hpm, hru62, ku62, hp0⟩ ⟨hk2, hm1, hm0, hak, ha0, hwi, hlb, hfb, hpb, hsh⟩)
set_option maxHeartbeats 4000000 in
set_option maxRecDepth 100000 in
theorem k_b1372 {xs : Nat → Int32} {Ls : Nat} {B : Nat × Nat} {K : Nat → Nat → Nat → Int32 → jZ → jI → jL → Prop} {v1 v2 v3 : Nat} {v4 : Int32} {Z : jZ} {I : jI} {L : jL} {T uT uB uM uF uS uK uC uA uV uX uY uR vR uP x0 x2 u5 u53 u54 u62 x1 uQ vQ uW vW t30 t29 u5c t6 t9 t10 t11 t12 : Nat} (g0 : LG0 B v1 v2 v3 T uT uB uM Z I) (g1 : LG1 v1 v2 v4 uT uB uM uF uS uK Z I) (g2 : LG2 v1 v2 uF uS uK uC uA uV uX uY Z I) (g3 : LG3 v1 v2 uF uS uX uY uR vR uP x0 x2 u5 u53 u54 u62 Z I) (g4 : LG4 v1 v2 uF uS uA uP x0 u62 x1 uQ vQ uW vW t30 t29 u5c t6 t9 t10 t11 t12 Z I) (hv : 0 ≤ v4.toInt ∧ v4.toInt + 6 ≤ (Ls : Int) ∧ (Ls : Int) ≤ 3072) (hK : ∀ (Z : jZ) (I : jI) (L : jL) (x : Int32), x = v4 + 6 → LInv B v1 v2 v3 x Z I → K v1 v2 v3 x Z I L) : f_L_law_b1372 xs Ls B K v1 v2 v3 v4 Z I L := by
  obtain ⟨w, bd, kv1, kv2, kv3, hl, ht, hruT, kuT, hruB, kuB, hruM⟩ := g0
  obtain ⟨kuM, hx, hruF, kuF, hx1, hx2, hx3, hruS, kuS, luS, hruK, kuK⟩ := g1
  obtain ⟨hruC, kuC, hk, hruA, kuA, hruV, kuV, hv0, hruX, kuX, hruY, kuY⟩ := g2
  obtain ⟨hruR, kuR, hrvR, kvR, hs0, hc0, hs9, hpc, hpm, hru62, ku62, hp0⟩ := g3
  obtain ⟨hk2, hm1, hm0, hak, ha0, hwi, hlb, hfb, hpb, hsh⟩ := g4
  unfold f_L_law_b1372
  refine ⟨vi_of (i_add rfl (show (1 : Int32).toInt = 1 from rfl) (by omega) (by omega)) (by omega) (by omega), ?_⟩
  have wo := w
  obtain ⟨uFe, uL0, uC0, uL1, uC1, p13, p14, q0, q1, SM⟩ := SAM_of w kv1 kv2 hruR hruX hrvR hruY hruA hruV hpc hpm hm1 hx1 hx3 hs9 hs0 hak ha0 hwi hlb hfb hpb hv0 hp0.1 hm0 hsh
  refine SAM_market1 SM bd _ (fun r1 Z I L w bd f cp tk => ?_)
  have ht : (I v1 4).toInt + (T : Int) = 6 := by rw [f.2.2.1 v1 11 4 kv1 (by decide) (by decide)]; exact ht
  have hwi := WI_fr f kuF kv2 (by decide) hwi
  have hlb := LB_fr f wo kuF kv2 (by decide) hlb
  have hfb := FB_fr f kuF kv2 (by decide) hfb
  have hpb := PB_fr f kv1 kuA kv2 (by decide) hpb
  have hsh : (I v2 39).toInt = -1 := by rw [f.2.2.1 v2 12 39 kv2 (by decide) (by decide)]; exact hsh
  have hak := AK_fr f wo kuF kv2 kuS luS hru62 ku62 (by decide) hak
  have hm0 := MAI_fr wo hpc.2.2.2.1 hpc.2.2.2.2.1 hm1 f (by decide) (by decide) hm0
  have hp0 := PR_same (EQC_fr f hpc (by decide)) (EQM_fr f kv2 hpm (by decide)) hp0
  have hk2 : KP2 Z I uS u62 (I v2 0).toInt.toNat := by rw [(f.2.2.1 v2 12 0 kv2 (by decide) (by decide))]; exact KP2_fr f wo.1 kuS luS kv2 hru62 ku62 (by decide) (by decide) (by decide) hk2
  have hs0 := ARr_same (f.2.2.2 uF 8 1 uX kuF hruX (by rw [kuX.2]; rfl) rfl (by decide)) (f.2.2.2 v2 12 2 uY kv2 hruY (by rw [kuY.2]; rfl) rfl (by decide)) (congrArg Int32.toInt (f.2.2.1 v2 12 0 kv2 (by decide) (by decide))) hs0
  have hc0 := KC_fr f wo.1 kuS luS kv2 hru62 ku62 (by decide) (by decide) (by decide) (congrArg Int32.toInt (f.2.2.1 v2 12 0 kv2 (by decide) (by decide))) hc0
  have hs9 := ARr_same (f.2.2.2 uF 8 0 uR kuF hruR (by rw [kuR.2]; rfl) rfl (by decide)) (f.2.2.2 v2 12 1 vR kv2 hrvR (by rw [kvR.2]; rfl) rfl (by decide)) (congrArg Int32.toInt (f.2.2.1 v2 12 0 kv2 (by decide) (by decide))) hs9
  have hv0 := PRr_fr f kv1 kuA (eMf f kv2 hruV kuV rfl (by decide)) (by decide) (by decide) hv0
  have hk := HK_fr f kuS kv2 hruK kuK hruC kuC (by decide) (by decide) (by decide) (by decide) hk
  have hx := TBr_fr f kuT hruB kuB kv2 hruM kuM (by decide) (by decide) (by decide) (by decide) hx
  have ea326 := congrArg Int32.toInt (f.2.2.1 uF 8 9 kuF (by decide) (by decide))
  have ea327 := congrArg Int32.toInt (f.2.2.1 v2 12 0 kv2 (by decide) (by decide))
  have ea328 := congrArg Int32.toInt (f.2.2.1 v2 12 7 kv2 (by decide) (by decide))
  have ea329 := congrArg Int32.toInt (f.2.2.1 v1 11 4 kv1 (by decide) (by decide))
  have ea330 := congrArg Int32.toInt (f.2.2.1 v2 12 8 kv2 (by decide) (by decide))
  have hm1 := (f.2.1 uP 4 1 hpc.2.2.2.1 (by decide) (by decide)).trans hm1
  have hpc := PCs_x f.1 (fun a c j ka hc => f.2.1 a c j ka (by omega) (by omega)) kv1 hpc
  have hpm := PMs_x f.1 (fun j hj => f.2.1 v2 12 j kv2 (by omega) (by omega)) hpm
  have hru62 := (f.2.1 v2 12 62 kv2 (by decide) (by decide)).trans hru62
  have ku62 := (f.1 _ _ ku62).1
  have hruX := (f.2.1 uF 8 1 kuF (by decide) (by decide)).trans hruX
  have kuX := (f.1 _ _ kuX).1
  have hruY := (f.2.1 v2 12 2 kv2 (by decide) (by decide)).trans hruY
  have kuY := (f.1 _ _ kuY).1
  have hruR := (f.2.1 uF 8 0 kuF (by decide) (by decide)).trans hruR
  have kuR := (f.1 _ _ kuR).1
  have hrvR := (f.2.1 v2 12 1 kv2 (by decide) (by decide)).trans hrvR
  have kvR := (f.1 _ _ kvR).1
  have hruA := (f.2.1 v1 11 3 kv1 (by decide) (by decide)).trans hruA
  have kuA := (f.1 _ _ kuA).1
  have hruV := (f.2.1 v2 12 13 kv2 (by decide) (by decide)).trans hruV
  have kuV := (f.1 _ _ kuV).1
  have hruS := (f.2.1 v1 11 8 kv1 (by decide) (by decide)).trans hruS
  have luS := (f.1 _ _ kuS).2.trans luS
  have kuS := (f.1 _ _ kuS).1
  have hruK := (f.2.1 v2 12 63 kv2 (by decide) (by decide)).trans hruK
  have kuK := (f.1 _ _ kuK).1
  have hruC := (f.2.1 v2 12 64 kv2 (by decide) (by decide)).trans hruC
  have kuC := (f.1 _ _ kuC).1
  have hruB := (f.2.1 uT 10 0 kuT (by decide) (by decide)).trans hruB
  have hruM := (f.2.1 v2 12 18 kv2 (by decide) (by decide)).trans hruM
  have kuB := (f.1 _ _ kuB).1
  have kuM := (f.1 _ _ kuM).1
  have hruT := (f.2.1 v1 11 0 kv1 (by decide) (by decide)).trans hruT
  have kuT := (f.1 _ _ kuT).1
  have hruF := (f.2.1 v1 11 2 kv1 (by decide) (by decide)).trans hruF
  have kuF := (f.1 _ _ kuF).1
  have hl : jlen Z v3 = 1 := (f.1 _ _ kv3).2.trans hl
  have kv1 := (f.1 _ _ kv1).1
  have kv2 := (f.1 _ _ kv2).1
  have kv3 := (f.1 _ _ kv3).1
  refine ⟨vi_of (i_add rfl (show (1 : Int32).toInt = 1 from rfl) (by omega) (by omega)) (by omega) (by omega), ?_⟩
  have wo := w
  refine tk _ _ (fun r2 Z I L er w bd f cp ha9 => ?_)
  have ht : (I v1 4).toInt + (T : Int) = 6 := by rw [f.2.2.1 v1 11 4 kv1 (by decide) (by decide)]; exact ht
  have ha0 := ha9
  have hwi := WI_fr f kuF kv2 (by decide) hwi
  have hlb := LB_fr f wo kuF kv2 (by decide) hlb
  have hfb := FB_fr f kuF kv2 (by decide) hfb
  have hpb := PB_fr f kv1 kuA kv2 (by decide) hpb
  have hsh : (I v2 39).toInt = -1 := by rw [f.2.2.1 v2 12 39 kv2 (by decide) (by decide)]; exact hsh
  have hak := AK_fr f wo kuF kv2 kuS luS hru62 ku62 (by decide) hak
  have hm0 := MAI_fr wo hpc.2.2.2.1 hpc.2.2.2.2.1 hm1 f (by decide) (by decide) hm0
  have hp0 := PR_same (EQC_fr f hpc (by decide)) (EQM_fr f kv2 hpm (by decide)) hp0
  have hk2 : KP2 Z I uS u62 (I v2 0).toInt.toNat := by rw [(f.2.2.1 v2 12 0 kv2 (by decide) (by decide))]; exact KP2_fr f wo.1 kuS luS kv2 hru62 ku62 (by decide) (by decide) (by decide) hk2
  have hs0 := ARr_same (f.2.2.2 uF 8 1 uX kuF hruX (by rw [kuX.2]; rfl) rfl (by decide)) (f.2.2.2 v2 12 2 uY kv2 hruY (by rw [kuY.2]; rfl) rfl (by decide)) (congrArg Int32.toInt (f.2.2.1 v2 12 0 kv2 (by decide) (by decide))) hs0
  have hc0 := KC_fr f wo.1 kuS luS kv2 hru62 ku62 (by decide) (by decide) (by decide) (congrArg Int32.toInt (f.2.2.1 v2 12 0 kv2 (by decide) (by decide))) hc0
  have hs9 := ARr_same (f.2.2.2 uF 8 0 uR kuF hruR (by rw [kuR.2]; rfl) rfl (by decide)) (f.2.2.2 v2 12 1 vR kv2 hrvR (by rw [kvR.2]; rfl) rfl (by decide)) (congrArg Int32.toInt (f.2.2.1 v2 12 0 kv2 (by decide) (by decide))) hs9
  have hv0 := PRr_fr f kv1 kuA (eMf f kv2 hruV kuV rfl (by decide)) (by decide) (by decide) hv0
  have hk := HK_fr f kuS kv2 hruK kuK hruC kuC (by decide) (by decide) (by decide) (by decide) hk
  have hx := TBr_fr f kuT hruB kuB kv2 hruM kuM (by decide) (by decide) (by decide) (by decide) hx
  have ea331 := congrArg Int32.toInt (f.2.2.1 uF 8 9 kuF (by decide) (by decide))
  have ea332 := congrArg Int32.toInt (f.2.2.1 v2 12 0 kv2 (by decide) (by decide))
  have ea333 := congrArg Int32.toInt (f.2.2.1 v2 12 7 kv2 (by decide) (by decide))
  have ea334 := congrArg Int32.toInt (f.2.2.1 v1 11 4 kv1 (by decide) (by decide))
  have ea335 := congrArg Int32.toInt (f.2.2.1 v2 12 8 kv2 (by decide) (by decide))
  have hm1 := (f.2.1 uP 4 1 hpc.2.2.2.1 (by decide) (by decide)).trans hm1
  have hpc := PCs_x f.1 (fun a c j ka hc => f.2.1 a c j ka (by omega) (by omega)) kv1 hpc
  have hpm := PMs_x f.1 (fun j hj => f.2.1 v2 12 j kv2 (by omega) (by omega)) hpm
  have hru62 := (f.2.1 v2 12 62 kv2 (by decide) (by decide)).trans hru62
  have ku62 := (f.1 _ _ ku62).1
  have hruX := (f.2.1 uF 8 1 kuF (by decide) (by decide)).trans hruX
  have kuX := (f.1 _ _ kuX).1
  have hruY := (f.2.1 v2 12 2 kv2 (by decide) (by decide)).trans hruY
  have kuY := (f.1 _ _ kuY).1
  have hruR := (f.2.1 uF 8 0 kuF (by decide) (by decide)).trans hruR
  have kuR := (f.1 _ _ kuR).1
  have hrvR := (f.2.1 v2 12 1 kv2 (by decide) (by decide)).trans hrvR
  have kvR := (f.1 _ _ kvR).1
  have hruA := (f.2.1 v1 11 3 kv1 (by decide) (by decide)).trans hruA
  have kuA := (f.1 _ _ kuA).1
  have hruV := (f.2.1 v2 12 13 kv2 (by decide) (by decide)).trans hruV
  have kuV := (f.1 _ _ kuV).1
  have hruS := (f.2.1 v1 11 8 kv1 (by decide) (by decide)).trans hruS
  have luS := (f.1 _ _ kuS).2.trans luS
  have kuS := (f.1 _ _ kuS).1
  have hruK := (f.2.1 v2 12 63 kv2 (by decide) (by decide)).trans hruK
  have kuK := (f.1 _ _ kuK).1
  have hruC := (f.2.1 v2 12 64 kv2 (by decide) (by decide)).trans hruC
  have kuC := (f.1 _ _ kuC).1
  have hruB := (f.2.1 uT 10 0 kuT (by decide) (by decide)).trans hruB
  have hruM := (f.2.1 v2 12 18 kv2 (by decide) (by decide)).trans hruM
  have kuB := (f.1 _ _ kuB).1
  have kuM := (f.1 _ _ kuM).1
  have hruT := (f.2.1 v1 11 0 kv1 (by decide) (by decide)).trans hruT
  have kuT := (f.1 _ _ kuT).1
  have hruF := (f.2.1 v1 11 2 kv1 (by decide) (by decide)).trans hruF
  have kuF := (f.1 _ _ kuF).1
  have hl : jlen Z v3 = 1 := (f.1 _ _ kv3).2.trans hl
  have kv1 := (f.1 _ _ kv1).1
  have kv2 := (f.1 _ _ kv2).1
  have kv3 := (f.1 _ _ kv3).1
  unfold f_L_law_b1760
  intro x ex
  have tx : x.toInt = v4.toInt + 6 := by rw [ex]; exact i_add rfl (show (6 : Int32).toInt = 6 from rfl) (by omega) (by omega)
  exact hK _ _ _ x ex (LInv_mk (Z := Z) (I := I) T uT uB uM uF uS uK uC uA uV uX uY uR vR uP x0 x2 u5 u53 u54 u62 x1 uQ vQ uW vW t30 t29 u5c t6 t9 t10 t11 t12 ⟨w, bd, kv1, kv2, kv3, hl, ht, hruT, kuT, hruB, kuB, hruM⟩ ⟨kuM, hx, hruF, kuF, (by omega), (by omega), (by omega), hruS, kuS, luS, hruK, kuK⟩ ⟨hruC, kuC, hk, hruA, kuA, hruV, kuV, hv0, hruX, kuX, hruY, kuY⟩ ⟨hruR, kuR, hrvR, kvR, hs0, hc0, hs9, hpc, hpm, hru62, ku62, hp0⟩ ⟨hk2, hm1, hm0, hak, ha0, hwi, hlb, hfb, hpb, hsh⟩)
set_option maxHeartbeats 4000000 in
set_option maxRecDepth 100000 in
theorem k_b1397 {xs : Nat → Int32} {Ls : Nat} {B : Nat × Nat} {K : Nat → Nat → Nat → Int32 → jZ → jI → jL → Prop} {v1 v2 v3 : Nat} {v4 : Int32} {Z : jZ} {I : jI} {L : jL} {T uT uB uM uF uS uK uC uA uV uX uY uR vR uP x0 x2 u5 u53 u54 u62 x1 uQ vQ uW vW t30 t29 u5c t6 t9 t10 t11 t12 : Nat} (g0 : LG0 B v1 v2 v3 T uT uB uM Z I) (g1 : LG1 v1 v2 v4 uT uB uM uF uS uK Z I) (g2 : LG2 v1 v2 uF uS uK uC uA uV uX uY Z I) (g3 : LG3 v1 v2 uF uS uX uY uR vR uP x0 x2 u5 u53 u54 u62 Z I) (g4 : LG4 v1 v2 uF uS uA uP x0 u62 x1 uQ vQ uW vW t30 t29 u5c t6 t9 t10 t11 t12 Z I) (hv : 0 ≤ v4.toInt ∧ v4.toInt + 6 ≤ (Ls : Int) ∧ (Ls : Int) ≤ 3072) (hK : ∀ (Z : jZ) (I : jI) (L : jL) (x : Int32), x = v4 + 6 → LInv B v1 v2 v3 x Z I → K v1 v2 v3 x Z I L) : f_L_law_b1397 xs Ls B K v1 v2 v3 v4 Z I L := by
  obtain ⟨w, bd, kv1, kv2, kv3, hl, ht, hruT, kuT, hruB, kuB, hruM⟩ := g0
  obtain ⟨kuM, hx, hruF, kuF, hx1, hx2, hx3, hruS, kuS, luS, hruK, kuK⟩ := g1
  obtain ⟨hruC, kuC, hk, hruA, kuA, hruV, kuV, hv0, hruX, kuX, hruY, kuY⟩ := g2
  obtain ⟨hruR, kuR, hrvR, kvR, hs0, hc0, hs9, hpc, hpm, hru62, ku62, hp0⟩ := g3
  obtain ⟨hk2, hm1, hm0, hak, ha0, hwi, hlb, hfb, hpb, hsh⟩ := g4
  unfold f_L_law_b1397
  refine ⟨vi_of (i_add rfl (show (1 : Int32).toInt = 1 from rfl) (by omega) (by omega)) (by omega) (by omega), ?_⟩
  refine ⟨vi_of (i_add rfl (show (2 : Int32).toInt = 2 from rfl) (by omega) (by omega)) (by omega) (by omega), ?_⟩
  have wo := w
  have n24 : 0 ≤ (I v2 0).toInt ∧ (I v2 0).toInt ≤ 24 := w.fld 12 0 kv2 (by decide)
  have h48 : (I uP 4).toInt ≤ 8 := (show rg 0 8 (I uP 4) from w.fld 4 4 hpc.2.2.2.1 (by decide)).2
  refine s15_X11_parts w v1 _ _ kv1 uF uP x0 x2 hpc  (fun r1  p1 => ?_)
  refine ⟨vi_of (i_add rfl (show (1 : Int32).toInt = 1 from rfl) (by omega) (by omega)) (by omega) (by omega), ?_⟩
  refine ⟨vi_of (i_add rfl (show (2 : Int32).toInt = 2 from rfl) (by omega) (by omega)) (by omega) (by omega), ?_⟩
  have wo := w
  have hp9 := hp0
  refine s15_X12_parts w v2 _ _ kv2 u5 u53 u54 hpm  (fun r2 I L w f p2 => ?_)
  have ht : (I v1 4).toInt + (T : Int) = 6 := by rw [f.2.2.1 v1 11 4 kv1 (by decide) (by decide)]; exact ht
  have ha0 := ARr_same (f.2.2.2 uF 8 2 uQ kuF hak.1 (by rw [hak.2.1.2]; rfl) rfl (by decide)) (f.2.2.2 v2 12 3 vQ kv2 hak.2.2.1 (by rw [hak.2.2.2.1.2]; rfl) rfl (by decide)) (congrArg Int32.toInt (f.2.2.1 v2 12 0 kv2 (by decide) (by decide))) ha0
  have hwi := WI_fr f kuF kv2 (by decide) hwi
  have hlb := LB_fr f wo kuF kv2 (by decide) hlb
  have hfb := FB_fr f kuF kv2 (by decide) hfb
  have hpb := PB_fr f kv1 kuA kv2 (by decide) hpb
  have hsh : (I v2 39).toInt = -1 := by rw [f.2.2.1 v2 12 39 kv2 (by decide) (by decide)]; exact hsh
  have hak := AK_fr f wo kuF kv2 kuS luS hru62 ku62 (by decide) hak
  have hm0 := MAI_fr wo hpc.2.2.2.1 hpc.2.2.2.2.1 hm1 f (by decide) (by decide) hm0
  have hp0 := PR_same (EQC_fr f hpc (by decide)) (EQM_fr f kv2 hpm (by decide)) hp0
  have hk2 : KP2 Z I uS u62 (I v2 0).toInt.toNat := by rw [(f.2.2.1 v2 12 0 kv2 (by decide) (by decide))]; exact KP2_fr f wo.1 kuS luS kv2 hru62 ku62 (by decide) (by decide) (by decide) hk2
  have hs0 := ARr_same (f.2.2.2 uF 8 1 uX kuF hruX (by rw [kuX.2]; rfl) rfl (by decide)) (f.2.2.2 v2 12 2 uY kv2 hruY (by rw [kuY.2]; rfl) rfl (by decide)) (congrArg Int32.toInt (f.2.2.1 v2 12 0 kv2 (by decide) (by decide))) hs0
  have hc0 := KC_fr f wo.1 kuS luS kv2 hru62 ku62 (by decide) (by decide) (by decide) (congrArg Int32.toInt (f.2.2.1 v2 12 0 kv2 (by decide) (by decide))) hc0
  have hs9 := ARr_same (f.2.2.2 uF 8 0 uR kuF hruR (by rw [kuR.2]; rfl) rfl (by decide)) (f.2.2.2 v2 12 1 vR kv2 hrvR (by rw [kvR.2]; rfl) rfl (by decide)) (congrArg Int32.toInt (f.2.2.1 v2 12 0 kv2 (by decide) (by decide))) hs9
  have hv0 := PRr_fr f kv1 kuA (eMf f kv2 hruV kuV rfl (by decide)) (by decide) (by decide) hv0
  have hk := HK_fr f kuS kv2 hruK kuK hruC kuC (by decide) (by decide) (by decide) (by decide) hk
  have hx := TBr_fr f kuT hruB kuB kv2 hruM kuM (by decide) (by decide) (by decide) (by decide) hx
  have ea336 := congrArg Int32.toInt (f.2.2.1 uF 8 9 kuF (by decide) (by decide))
  have ea337 := congrArg Int32.toInt (f.2.2.1 v2 12 0 kv2 (by decide) (by decide))
  have ea338 := congrArg Int32.toInt (f.2.2.1 v2 12 7 kv2 (by decide) (by decide))
  have ea339 := congrArg Int32.toInt (f.2.2.1 v1 11 4 kv1 (by decide) (by decide))
  have ea340 := congrArg Int32.toInt (f.2.2.1 v2 12 8 kv2 (by decide) (by decide))
  unfold f_L_law_b1760
  intro x ex
  have tx : x.toInt = v4.toInt + 6 := by rw [ex]; exact i_add rfl (show (6 : Int32).toInt = 6 from rfl) (by omega) (by omega)
  exact hK _ _ _ x ex (LInv_mk (Z := Z) (I := I) T uT uB uM uF uS uK uC uA uV uX uY uR vR uP x0 x2 u5 u53 u54 u62 x1 uQ vQ uW vW t30 t29 u5c t6 t9 t10 t11 t12 ⟨w, bd, kv1, kv2, kv3, hl, ht, hruT, kuT, hruB, kuB, hruM⟩ ⟨kuM, hx, hruF, kuF, (by omega), (by omega), (by omega), hruS, kuS, luS, hruK, kuK⟩ ⟨hruC, kuC, hk, hruA, kuA, hruV, kuV, hv0, hruX, kuX, hruY, kuY⟩ ⟨hruR, kuR, hrvR, kvR, hs0, hc0, hs9, hpc, hpm, hru62, ku62, hp0⟩ ⟨hk2, hm1, hm0, hak, ha0, hwi, hlb, hfb, hpb, hsh⟩)
set_option maxHeartbeats 4000000 in
set_option maxRecDepth 100000 in
theorem k_b1434 {xs : Nat → Int32} {Ls : Nat} {B : Nat × Nat} {K : Nat → Nat → Nat → Int32 → jZ → jI → jL → Prop} {v1 v2 v3 : Nat} {v4 : Int32} {Z : jZ} {I : jI} {L : jL} {T uT uB uM uF uS uK uC uA uV uX uY uR vR uP x0 x2 u5 u53 u54 u62 x1 uQ vQ uW vW t30 t29 u5c t6 t9 t10 t11 t12 : Nat} (g0 : LG0 B v1 v2 v3 T uT uB uM Z I) (g1 : LG1 v1 v2 v4 uT uB uM uF uS uK Z I) (g2 : LG2 v1 v2 uF uS uK uC uA uV uX uY Z I) (g3 : LG3 v1 v2 uF uS uX uY uR vR uP x0 x2 u5 u53 u54 u62 Z I) (g4 : LG4 v1 v2 uF uS uA uP x0 u62 x1 uQ vQ uW vW t30 t29 u5c t6 t9 t10 t11 t12 Z I) (hv : 0 ≤ v4.toInt ∧ v4.toInt + 6 ≤ (Ls : Int) ∧ (Ls : Int) ≤ 3072) (hK : ∀ (Z : jZ) (I : jI) (L : jL) (x : Int32), x = v4 + 6 → LInv B v1 v2 v3 x Z I → K v1 v2 v3 x Z I L) : f_L_law_b1434 xs Ls B K v1 v2 v3 v4 Z I L := by
  obtain ⟨w, bd, kv1, kv2, kv3, hl, ht, hruT, kuT, hruB, kuB, hruM⟩ := g0
  obtain ⟨kuM, hx, hruF, kuF, hx1, hx2, hx3, hruS, kuS, luS, hruK, kuK⟩ := g1
  obtain ⟨hruC, kuC, hk, hruA, kuA, hruV, kuV, hv0, hruX, kuX, hruY, kuY⟩ := g2
  obtain ⟨hruR, kuR, hrvR, kvR, hs0, hc0, hs9, hpc, hpm, hru62, ku62, hp0⟩ := g3
  obtain ⟨hk2, hm1, hm0, hak, ha0, hwi, hlb, hfb, hpb, hsh⟩ := g4
  unfold f_L_law_b1434
  refine ⟨vi_of (i_add rfl (show (1 : Int32).toInt = 1 from rfl) (by omega) (by omega)) (by omega) (by omega), ?_⟩
  refine ⟨vi_of (i_add rfl (show (2 : Int32).toInt = 2 from rfl) (by omega) (by omega)) (by omega) (by omega), ?_⟩
  refine ⟨vi_of (i_add rfl (show (3 : Int32).toInt = 3 from rfl) (by omega) (by omega)) (by omega) (by omega), ?_⟩
  refine ⟨vi_of (i_add rfl (show (4 : Int32).toInt = 4 from rfl) (by omega) (by omega)) (by omega) (by omega), ?_⟩
  refine ⟨vi_of (i_add rfl (show (5 : Int32).toInt = 5 from rfl) (by omega) (by omega)) (by omega) (by omega), ?_⟩
  have wo := w
  have n24 : 0 ≤ (I v2 0).toInt ∧ (I v2 0).toInt ≤ 24 := w.fld 12 0 kv2 (by decide)
  have h48 : (I uP 4).toInt ≤ 8 := (show rg 0 8 (I uP 4) from w.fld 4 4 hpc.2.2.2.1 (by decide)).2
  refine mj_X11_sells (s18_X11_sells w v1 _ _ _ _ _ uF uP x0 x1 ⟨hpc.1, hpc.2.1, hpc.2.2.1, hpc.2.2.2.1, hpc.2.2.2.2.1, hm1⟩ hm0 (Q := fun _ I' _ => MAI I' x0 x1) (fun r I' L' h => h)) ?_
  refine s15_X11_sells w v1 _ _ _ _ _ kv1 uF uP x0 x2 hpc  (fun r1 I L w f p1 hm0 => ?_)
  have ht : (I v1 4).toInt + (T : Int) = 6 := by rw [f.2.2.1 v1 11 4 kv1 (by decide) (by decide)]; exact ht
  have ha0 := ARr_same (f.2.2.2 uF 8 2 uQ kuF hak.1 (by rw [hak.2.1.2]; rfl) rfl (by decide)) (f.2.2.2 v2 12 3 vQ kv2 hak.2.2.1 (by rw [hak.2.2.2.1.2]; rfl) rfl (by decide)) (congrArg Int32.toInt (f.2.2.1 v2 12 0 kv2 (by decide) (by decide))) ha0
  have hwi := WI_fr f kuF kv2 (by decide) hwi
  have hlb := LB_fr f wo kuF kv2 (by decide) hlb
  have hfb := FB_fr f kuF kv2 (by decide) hfb
  have hpb := PB_fr f kv1 kuA kv2 (by decide) hpb
  have hsh : (I v2 39).toInt = -1 := by rw [f.2.2.1 v2 12 39 kv2 (by decide) (by decide)]; exact hsh
  have hak := AK_fr f wo kuF kv2 kuS luS hru62 ku62 (by decide) hak
  have hpA := hp0
  have hkA := hk2
  have wk := wo
  have fk := f
  have e01 := (f.2.2.1 v2 12 0 kv2 (by decide) (by decide))
  have qm := (EQM_fr f kv2 hpm (by decide))
  have hk2 : KP2 Z I uS u62 (I v2 0).toInt.toNat := by rw [(f.2.2.1 v2 12 0 kv2 (by decide) (by decide))]; exact KP2_fr f wo.1 kuS luS kv2 hru62 ku62 (by decide) (by decide) (by decide) hk2
  have hs0 := ARr_same (f.2.2.2 uF 8 1 uX kuF hruX (by rw [kuX.2]; rfl) rfl (by decide)) (f.2.2.2 v2 12 2 uY kv2 hruY (by rw [kuY.2]; rfl) rfl (by decide)) (congrArg Int32.toInt (f.2.2.1 v2 12 0 kv2 (by decide) (by decide))) hs0
  have hc0 := KC_fr f wo.1 kuS luS kv2 hru62 ku62 (by decide) (by decide) (by decide) (congrArg Int32.toInt (f.2.2.1 v2 12 0 kv2 (by decide) (by decide))) hc0
  have hs9 := ARr_same (f.2.2.2 uF 8 0 uR kuF hruR (by rw [kuR.2]; rfl) rfl (by decide)) (f.2.2.2 v2 12 1 vR kv2 hrvR (by rw [kvR.2]; rfl) rfl (by decide)) (congrArg Int32.toInt (f.2.2.1 v2 12 0 kv2 (by decide) (by decide))) hs9
  have hv0 := PRr_fr f kv1 kuA (eMf f kv2 hruV kuV rfl (by decide)) (by decide) (by decide) hv0
  have hk := HK_fr f kuS kv2 hruK kuK hruC kuC (by decide) (by decide) (by decide) (by decide) hk
  have hx := TBr_fr f kuT hruB kuB kv2 hruM kuM (by decide) (by decide) (by decide) (by decide) hx
  have ea341 := congrArg Int32.toInt (f.2.2.1 uF 8 9 kuF (by decide) (by decide))
  have ea342 := congrArg Int32.toInt (f.2.2.1 v2 12 0 kv2 (by decide) (by decide))
  have ea343 := congrArg Int32.toInt (f.2.2.1 v2 12 7 kv2 (by decide) (by decide))
  have ea344 := congrArg Int32.toInt (f.2.2.1 v1 11 4 kv1 (by decide) (by decide))
  have ea345 := congrArg Int32.toInt (f.2.2.1 v2 12 8 kv2 (by decide) (by decide))
  refine ⟨vi_of (i_add rfl (show (1 : Int32).toInt = 1 from rfl) (by omega) (by omega)) (by omega) (by omega), ?_⟩
  refine ⟨vi_of (i_add rfl (show (2 : Int32).toInt = 2 from rfl) (by omega) (by omega)) (by omega) (by omega), ?_⟩
  refine ⟨vi_of (i_add rfl (show (3 : Int32).toInt = 3 from rfl) (by omega) (by omega)) (by omega) (by omega), ?_⟩
  refine ⟨vi_of (i_add rfl (show (4 : Int32).toInt = 4 from rfl) (by omega) (by omega)) (by omega) (by omega), ?_⟩
  refine ⟨vi_of (i_add rfl (show (5 : Int32).toInt = 5 from rfl) (by omega) (by omega)) (by omega) (by omega), ?_⟩
  have wo := w
  refine s15_X12_sells w v2 _ _ _ _ _ kv2 u5 u53 u54 hpm  (fun r2 I L w f p2 => ?_)
  have ht : (I v1 4).toInt + (T : Int) = 6 := by rw [f.2.2.1 v1 11 4 kv1 (by decide) (by decide)]; exact ht
  have ha0 := ARr_same (f.2.2.2 uF 8 2 uQ kuF hak.1 (by rw [hak.2.1.2]; rfl) rfl (by decide)) (f.2.2.2 v2 12 3 vQ kv2 hak.2.2.1 (by rw [hak.2.2.2.1.2]; rfl) rfl (by decide)) (congrArg Int32.toInt (f.2.2.1 v2 12 0 kv2 (by decide) (by decide))) ha0
  have hwi := WI_fr f kuF kv2 (by decide) hwi
  have hlb := LB_fr f wo kuF kv2 (by decide) hlb
  have hfb := FB_fr f kuF kv2 (by decide) hfb
  have hpb := PB_fr f kv1 kuA kv2 (by decide) hpb
  have hsh : (I v2 39).toInt = -1 := by rw [f.2.2.1 v2 12 39 kv2 (by decide) (by decide)]; exact hsh
  have hak := AK_fr f wo kuF kv2 kuS luS hru62 ku62 (by decide) hak
  have hm0 := MAI_fr wo hpc.2.2.2.1 hpc.2.2.2.2.1 hm1 f (by decide) (by decide) hm0
  obtain ⟨er, hp0⟩ := PR_sells n24 h48 hx1 qm (EQC_fr f hpc (by decide)) (f.2.2.1 v2 12 0 kv2 (by decide) (by decide)) p1 p2 hpA
  have hk2 : KP2 Z I uS u62 (I v2 0).toInt.toNat := by rw [(f.2.2.1 v2 12 0 kv2 (by decide) (by decide))]; exact KP2_fr f wo.1 kuS luS kv2 hru62 ku62 (by decide) (by decide) (by decide) hk2
  have hs0 := ARr_same (f.2.2.2 uF 8 1 uX kuF hruX (by rw [kuX.2]; rfl) rfl (by decide)) (f.2.2.2 v2 12 2 uY kv2 hruY (by rw [kuY.2]; rfl) rfl (by decide)) (congrArg Int32.toInt (f.2.2.1 v2 12 0 kv2 (by decide) (by decide))) hs0
  have hc0 := KC_fr f wo.1 kuS luS kv2 hru62 ku62 (by decide) (by decide) (by decide) (congrArg Int32.toInt (f.2.2.1 v2 12 0 kv2 (by decide) (by decide))) hc0
  have hs9 := ARr_same (f.2.2.2 uF 8 0 uR kuF hruR (by rw [kuR.2]; rfl) rfl (by decide)) (f.2.2.2 v2 12 1 vR kv2 hrvR (by rw [kvR.2]; rfl) rfl (by decide)) (congrArg Int32.toInt (f.2.2.1 v2 12 0 kv2 (by decide) (by decide))) hs9
  have hv0 := PRr_fr f kv1 kuA (eMf f kv2 hruV kuV rfl (by decide)) (by decide) (by decide) hv0
  have hk := HK_fr f kuS kv2 hruK kuK hruC kuC (by decide) (by decide) (by decide) (by decide) hk
  have hx := TBr_fr f kuT hruB kuB kv2 hruM kuM (by decide) (by decide) (by decide) (by decide) hx
  have ea346 := congrArg Int32.toInt (f.2.2.1 uF 8 9 kuF (by decide) (by decide))
  have ea347 := congrArg Int32.toInt (f.2.2.1 v2 12 0 kv2 (by decide) (by decide))
  have ea348 := congrArg Int32.toInt (f.2.2.1 v2 12 7 kv2 (by decide) (by decide))
  have ea349 := congrArg Int32.toInt (f.2.2.1 v1 11 4 kv1 (by decide) (by decide))
  have ea350 := congrArg Int32.toInt (f.2.2.1 v2 12 8 kv2 (by decide) (by decide))
  unfold f_L_law_b1760
  intro x ex
  have tx : x.toInt = v4.toInt + 6 := by rw [ex]; exact i_add rfl (show (6 : Int32).toInt = 6 from rfl) (by omega) (by omega)
  exact hK _ _ _ x ex (LInv_mk (Z := Z) (I := I) T uT uB uM uF uS uK uC uA uV uX uY uR vR uP x0 x2 u5 u53 u54 u62 x1 uQ vQ uW vW t30 t29 u5c t6 t9 t10 t11 t12 ⟨w, bd, kv1, kv2, kv3, hl, ht, hruT, kuT, hruB, kuB, hruM⟩ ⟨kuM, hx, hruF, kuF, (by omega), (by omega), (by omega), hruS, kuS, luS, hruK, kuK⟩ ⟨hruC, kuC, hk, hruA, kuA, hruV, kuV, hv0, hruX, kuX, hruY, kuY⟩ ⟨hruR, kuR, hrvR, kvR, hs0, hc0, hs9, hpc, hpm, hru62, ku62, hp0⟩ ⟨hk2, hm1, hm0, hak, ha0, hwi, hlb, hfb, hpb, hsh⟩)
set_option maxHeartbeats 4000000 in
set_option maxRecDepth 100000 in
theorem k_b1507 {xs : Nat → Int32} {Ls : Nat} {B : Nat × Nat} {K : Nat → Nat → Nat → Int32 → jZ → jI → jL → Prop} {v1 v2 v3 : Nat} {v4 : Int32} {Z : jZ} {I : jI} {L : jL} {T uT uB uM uF uS uK uC uA uV uX uY uR vR uP x0 x2 u5 u53 u54 u62 x1 uQ vQ uW vW t30 t29 u5c t6 t9 t10 t11 t12 : Nat} (g0 : LG0 B v1 v2 v3 T uT uB uM Z I) (g1 : LG1 v1 v2 v4 uT uB uM uF uS uK Z I) (g2 : LG2 v1 v2 uF uS uK uC uA uV uX uY Z I) (g3 : LG3 v1 v2 uF uS uX uY uR vR uP x0 x2 u5 u53 u54 u62 Z I) (g4 : LG4 v1 v2 uF uS uA uP x0 u62 x1 uQ vQ uW vW t30 t29 u5c t6 t9 t10 t11 t12 Z I) (hv : 0 ≤ v4.toInt ∧ v4.toInt + 6 ≤ (Ls : Int) ∧ (Ls : Int) ≤ 3072) (hK : ∀ (Z : jZ) (I : jI) (L : jL) (x : Int32), x = v4 + 6 → LInv B v1 v2 v3 x Z I → K v1 v2 v3 x Z I L) : f_L_law_b1507 xs Ls B K v1 v2 v3 v4 Z I L := by
  obtain ⟨w, bd, kv1, kv2, kv3, hl, ht, hruT, kuT, hruB, kuB, hruM⟩ := g0
  obtain ⟨kuM, hx, hruF, kuF, hx1, hx2, hx3, hruS, kuS, luS, hruK, kuK⟩ := g1
  obtain ⟨hruC, kuC, hk, hruA, kuA, hruV, kuV, hv0, hruX, kuX, hruY, kuY⟩ := g2
  obtain ⟨hruR, kuR, hrvR, kvR, hs0, hc0, hs9, hpc, hpm, hru62, ku62, hp0⟩ := g3
  obtain ⟨hk2, hm1, hm0, hak, ha0, hwi, hlb, hfb, hpb, hsh⟩ := g4
  unfold f_L_law_b1507
  refine ⟨vi_of (i_add rfl (show (1 : Int32).toInt = 1 from rfl) (by omega) (by omega)) (by omega) (by omega), ?_⟩
  refine ⟨vi_of (i_add rfl (show (2 : Int32).toInt = 2 from rfl) (by omega) (by omega)) (by omega) (by omega), ?_⟩
  have wo := w
  have n24 : 0 ≤ (I v2 0).toInt ∧ (I v2 0).toInt ≤ 24 := w.fld 12 0 kv2 (by decide)
  have h48 : (I uP 4).toInt ≤ 8 := (show rg 0 8 (I uP 4) from w.fld 4 4 hpc.2.2.2.1 (by decide)).2
  obtain ⟨n9, hn9⟩ : ∃ n : Nat, (I v2 0).toInt = (n : Int) := ⟨(I v2 0).toInt.toNat, by omega⟩
  have hok9 : ∀ z, z < 8 * n9 → 0 ≤ (I u5 z).toInt ∧ (I u5 z).toInt ≤ 720 := fun z hz => OWP_le hp0.1.2.2 (by omega)
  refine mj_X11_dies (s18_X11_dies w v1 _ _ uF uP x0 x1 ⟨hpc.1, hpc.2.1, hpc.2.2.1, hpc.2.2.2.1, hpc.2.2.2.2.1, hm1⟩ hm0 (Q := fun _ I' _ => MAI I' x0 x1) (fun r I' L' h => h)) ?_
  refine s15_X11_dies w v1 _ _ kv1 uF uP x0 x2 hpc n9 (by omega) (fun z hz => PP_le hp0.1 hz)  (fun r1 I L w f p1 hm0 => ?_)
  have ht : (I v1 4).toInt + (T : Int) = 6 := by rw [f.2.2.1 v1 11 4 kv1 (by decide) (by decide)]; exact ht
  have ha0 := ARr_same (f.2.2.2 uF 8 2 uQ kuF hak.1 (by rw [hak.2.1.2]; rfl) rfl (by decide)) (f.2.2.2 v2 12 3 vQ kv2 hak.2.2.1 (by rw [hak.2.2.2.1.2]; rfl) rfl (by decide)) (congrArg Int32.toInt (f.2.2.1 v2 12 0 kv2 (by decide) (by decide))) ha0
  have hwi := WI_fr f kuF kv2 (by decide) hwi
  have hlb := LB_fr f wo kuF kv2 (by decide) hlb
  have hfb := FB_fr f kuF kv2 (by decide) hfb
  have hpb := PB_fr f kv1 kuA kv2 (by decide) hpb
  have hsh : (I v2 39).toInt = -1 := by rw [f.2.2.1 v2 12 39 kv2 (by decide) (by decide)]; exact hsh
  have hak := AK_fr f wo kuF kv2 kuS luS hru62 ku62 (by decide) hak
  have hpA := hp0
  have hkA := hk2
  have wk := wo
  have fk := f
  have e01 := (f.2.2.1 v2 12 0 kv2 (by decide) (by decide))
  have qm := (EQM_fr f kv2 hpm (by decide))
  have hk2 : KP2 Z I uS u62 (I v2 0).toInt.toNat := by rw [(f.2.2.1 v2 12 0 kv2 (by decide) (by decide))]; exact KP2_fr f wo.1 kuS luS kv2 hru62 ku62 (by decide) (by decide) (by decide) hk2
  have hs0 := ARr_same (f.2.2.2 uF 8 1 uX kuF hruX (by rw [kuX.2]; rfl) rfl (by decide)) (f.2.2.2 v2 12 2 uY kv2 hruY (by rw [kuY.2]; rfl) rfl (by decide)) (congrArg Int32.toInt (f.2.2.1 v2 12 0 kv2 (by decide) (by decide))) hs0
  have hc0 := KC_fr f wo.1 kuS luS kv2 hru62 ku62 (by decide) (by decide) (by decide) (congrArg Int32.toInt (f.2.2.1 v2 12 0 kv2 (by decide) (by decide))) hc0
  have hs9 := ARr_same (f.2.2.2 uF 8 0 uR kuF hruR (by rw [kuR.2]; rfl) rfl (by decide)) (f.2.2.2 v2 12 1 vR kv2 hrvR (by rw [kvR.2]; rfl) rfl (by decide)) (congrArg Int32.toInt (f.2.2.1 v2 12 0 kv2 (by decide) (by decide))) hs9
  have hv0 := PRr_fr f kv1 kuA (eMf f kv2 hruV kuV rfl (by decide)) (by decide) (by decide) hv0
  have hk := HK_fr f kuS kv2 hruK kuK hruC kuC (by decide) (by decide) (by decide) (by decide) hk
  have hx := TBr_fr f kuT hruB kuB kv2 hruM kuM (by decide) (by decide) (by decide) (by decide) hx
  have ea351 := congrArg Int32.toInt (f.2.2.1 uF 8 9 kuF (by decide) (by decide))
  have ea352 := congrArg Int32.toInt (f.2.2.1 v2 12 0 kv2 (by decide) (by decide))
  have ea353 := congrArg Int32.toInt (f.2.2.1 v2 12 7 kv2 (by decide) (by decide))
  have ea354 := congrArg Int32.toInt (f.2.2.1 v1 11 4 kv1 (by decide) (by decide))
  have ea355 := congrArg Int32.toInt (f.2.2.1 v2 12 8 kv2 (by decide) (by decide))
  refine ⟨vi_of (i_add rfl (show (1 : Int32).toInt = 1 from rfl) (by omega) (by omega)) (by omega) (by omega), ?_⟩
  refine ⟨vi_of (i_add rfl (show (2 : Int32).toInt = 2 from rfl) (by omega) (by omega)) (by omega) (by omega), ?_⟩
  have wo := w
  refine s15_X12_dies w v2 _ _ kv2 u5 u53 u54 hpm n9 (by rw [e01]; exact hn9) (fun z hz => by rw [qm.1]; exact hok9 z hz)  (fun r2 I L w f p2 => ?_)
  have ht : (I v1 4).toInt + (T : Int) = 6 := by rw [f.2.2.1 v1 11 4 kv1 (by decide) (by decide)]; exact ht
  have ha0 := ARr_same (f.2.2.2 uF 8 2 uQ kuF hak.1 (by rw [hak.2.1.2]; rfl) rfl (by decide)) (f.2.2.2 v2 12 3 vQ kv2 hak.2.2.1 (by rw [hak.2.2.2.1.2]; rfl) rfl (by decide)) (congrArg Int32.toInt (f.2.2.1 v2 12 0 kv2 (by decide) (by decide))) ha0
  have hwi := WI_fr f kuF kv2 (by decide) hwi
  have hlb := LB_fr f wo kuF kv2 (by decide) hlb
  have hfb := FB_fr f kuF kv2 (by decide) hfb
  have hpb := PB_fr f kv1 kuA kv2 (by decide) hpb
  have hsh : (I v2 39).toInt = -1 := by rw [f.2.2.1 v2 12 39 kv2 (by decide) (by decide)]; exact hsh
  have hak := AK_fr f wo kuF kv2 kuS luS hru62 ku62 (by decide) hak
  have hm0 := MAI_fr wo hpc.2.2.2.1 hpc.2.2.2.2.1 hm1 f (by decide) (by decide) hm0
  obtain ⟨er, hp0⟩ := PR_dies hn9 (by omega) h48 qm (EQC_fr f hpc (by decide)) (f.2.2.1 v2 12 0 kv2 (by decide) (by decide)) p1 p2 hpA
  have hk2 : KP2 Z I uS u62 (I v2 0).toInt.toNat := by rw [(f.2.2.1 v2 12 0 kv2 (by decide) (by decide))]; exact KP2_fr f wo.1 kuS luS kv2 hru62 ku62 (by decide) (by decide) (by decide) hk2
  have hs0 := ARr_same (f.2.2.2 uF 8 1 uX kuF hruX (by rw [kuX.2]; rfl) rfl (by decide)) (f.2.2.2 v2 12 2 uY kv2 hruY (by rw [kuY.2]; rfl) rfl (by decide)) (congrArg Int32.toInt (f.2.2.1 v2 12 0 kv2 (by decide) (by decide))) hs0
  have hc0 := KC_fr f wo.1 kuS luS kv2 hru62 ku62 (by decide) (by decide) (by decide) (congrArg Int32.toInt (f.2.2.1 v2 12 0 kv2 (by decide) (by decide))) hc0
  have hs9 := ARr_same (f.2.2.2 uF 8 0 uR kuF hruR (by rw [kuR.2]; rfl) rfl (by decide)) (f.2.2.2 v2 12 1 vR kv2 hrvR (by rw [kvR.2]; rfl) rfl (by decide)) (congrArg Int32.toInt (f.2.2.1 v2 12 0 kv2 (by decide) (by decide))) hs9
  have hv0 := PRr_fr f kv1 kuA (eMf f kv2 hruV kuV rfl (by decide)) (by decide) (by decide) hv0
  have hk := HK_fr f kuS kv2 hruK kuK hruC kuC (by decide) (by decide) (by decide) (by decide) hk
  have hx := TBr_fr f kuT hruB kuB kv2 hruM kuM (by decide) (by decide) (by decide) (by decide) hx
  have ea356 := congrArg Int32.toInt (f.2.2.1 uF 8 9 kuF (by decide) (by decide))
  have ea357 := congrArg Int32.toInt (f.2.2.1 v2 12 0 kv2 (by decide) (by decide))
  have ea358 := congrArg Int32.toInt (f.2.2.1 v2 12 7 kv2 (by decide) (by decide))
  have ea359 := congrArg Int32.toInt (f.2.2.1 v1 11 4 kv1 (by decide) (by decide))
  have ea360 := congrArg Int32.toInt (f.2.2.1 v2 12 8 kv2 (by decide) (by decide))
  unfold f_L_law_b1760
  intro x ex
  have tx : x.toInt = v4.toInt + 6 := by rw [ex]; exact i_add rfl (show (6 : Int32).toInt = 6 from rfl) (by omega) (by omega)
  exact hK _ _ _ x ex (LInv_mk (Z := Z) (I := I) T uT uB uM uF uS uK uC uA uV uX uY uR vR uP x0 x2 u5 u53 u54 u62 x1 uQ vQ uW vW t30 t29 u5c t6 t9 t10 t11 t12 ⟨w, bd, kv1, kv2, kv3, hl, ht, hruT, kuT, hruB, kuB, hruM⟩ ⟨kuM, hx, hruF, kuF, (by omega), (by omega), (by omega), hruS, kuS, luS, hruK, kuK⟩ ⟨hruC, kuC, hk, hruA, kuA, hruV, kuV, hv0, hruX, kuX, hruY, kuY⟩ ⟨hruR, kuR, hrvR, kvR, hs0, hc0, hs9, hpc, hpm, hru62, ku62, hp0⟩ ⟨hk2, hm1, hm0, hak, ha0, hwi, hlb, hfb, hpb, hsh⟩)
set_option maxHeartbeats 4000000 in
set_option maxRecDepth 100000 in
theorem k_b1544 {xs : Nat → Int32} {Ls : Nat} {B : Nat × Nat} {K : Nat → Nat → Nat → Int32 → jZ → jI → jL → Prop} {v1 v2 v3 : Nat} {v4 : Int32} {Z : jZ} {I : jI} {L : jL} {T uT uB uM uF uS uK uC uA uV uX uY uR vR uP x0 x2 u5 u53 u54 u62 x1 uQ vQ uW vW t30 t29 u5c t6 t9 t10 t11 t12 : Nat} (g0 : LG0 B v1 v2 v3 T uT uB uM Z I) (g1 : LG1 v1 v2 v4 uT uB uM uF uS uK Z I) (g2 : LG2 v1 v2 uF uS uK uC uA uV uX uY Z I) (g3 : LG3 v1 v2 uF uS uX uY uR vR uP x0 x2 u5 u53 u54 u62 Z I) (g4 : LG4 v1 v2 uF uS uA uP x0 u62 x1 uQ vQ uW vW t30 t29 u5c t6 t9 t10 t11 t12 Z I) (hv : 0 ≤ v4.toInt ∧ v4.toInt + 6 ≤ (Ls : Int) ∧ (Ls : Int) ≤ 3072) (hK : ∀ (Z : jZ) (I : jI) (L : jL) (x : Int32), x = v4 + 6 → LInv B v1 v2 v3 x Z I → K v1 v2 v3 x Z I L) : f_L_law_b1544 xs Ls B K v1 v2 v3 v4 Z I L := by
  obtain ⟨w, bd, kv1, kv2, kv3, hl, ht, hruT, kuT, hruB, kuB, hruM⟩ := g0
  obtain ⟨kuM, hx, hruF, kuF, hx1, hx2, hx3, hruS, kuS, luS, hruK, kuK⟩ := g1
  obtain ⟨hruC, kuC, hk, hruA, kuA, hruV, kuV, hv0, hruX, kuX, hruY, kuY⟩ := g2
  obtain ⟨hruR, kuR, hrvR, kvR, hs0, hc0, hs9, hpc, hpm, hru62, ku62, hp0⟩ := g3
  obtain ⟨hk2, hm1, hm0, hak, ha0, hwi, hlb, hfb, hpb, hsh⟩ := g4
  unfold f_L_law_b1544
  have wo := w
  have n24 : 0 ≤ (I v2 0).toInt ∧ (I v2 0).toInt ≤ 24 := w.fld 12 0 kv2 (by decide)
  have h48 : (I uP 4).toInt ≤ 8 := (show rg 0 8 (I uP 4) from w.fld 4 4 hpc.2.2.2.1 (by decide)).2
  refine mj_X11_undo (s18_X11_undo w v1 uF uP x0 x1 ⟨hpc.1, hpc.2.1, hpc.2.2.1, hpc.2.2.2.1, hpc.2.2.2.2.1, hm1⟩ hm0 (Q := fun _ I' _ => MAI I' x0 x1) (fun r I' L' h => h)) ?_
  refine s15_X11_undo w v1 kv1 uF uP x0 x2 hpc  (fun r1 I L w f p1 hm0 => ?_)
  have ht : (I v1 4).toInt + (T : Int) = 6 := by rw [f.2.2.1 v1 11 4 kv1 (by decide) (by decide)]; exact ht
  have ha0 := ARr_same (f.2.2.2 uF 8 2 uQ kuF hak.1 (by rw [hak.2.1.2]; rfl) rfl (by decide)) (f.2.2.2 v2 12 3 vQ kv2 hak.2.2.1 (by rw [hak.2.2.2.1.2]; rfl) rfl (by decide)) (congrArg Int32.toInt (f.2.2.1 v2 12 0 kv2 (by decide) (by decide))) ha0
  have hwi := WI_fr f kuF kv2 (by decide) hwi
  have hlb := LB_fr f wo kuF kv2 (by decide) hlb
  have hfb := FB_fr f kuF kv2 (by decide) hfb
  have hpb := PB_fr f kv1 kuA kv2 (by decide) hpb
  have hsh : (I v2 39).toInt = -1 := by rw [f.2.2.1 v2 12 39 kv2 (by decide) (by decide)]; exact hsh
  have hak := AK_fr f wo kuF kv2 kuS luS hru62 ku62 (by decide) hak
  have hpA := hp0
  have hkA := hk2
  have wk := wo
  have fk := f
  have e01 := (f.2.2.1 v2 12 0 kv2 (by decide) (by decide))
  have qm := (EQM_fr f kv2 hpm (by decide))
  have hk2 : KP2 Z I uS u62 (I v2 0).toInt.toNat := by rw [(f.2.2.1 v2 12 0 kv2 (by decide) (by decide))]; exact KP2_fr f wo.1 kuS luS kv2 hru62 ku62 (by decide) (by decide) (by decide) hk2
  have hs0 := ARr_same (f.2.2.2 uF 8 1 uX kuF hruX (by rw [kuX.2]; rfl) rfl (by decide)) (f.2.2.2 v2 12 2 uY kv2 hruY (by rw [kuY.2]; rfl) rfl (by decide)) (congrArg Int32.toInt (f.2.2.1 v2 12 0 kv2 (by decide) (by decide))) hs0
  have hc0 := KC_fr f wo.1 kuS luS kv2 hru62 ku62 (by decide) (by decide) (by decide) (congrArg Int32.toInt (f.2.2.1 v2 12 0 kv2 (by decide) (by decide))) hc0
  have hs9 := ARr_same (f.2.2.2 uF 8 0 uR kuF hruR (by rw [kuR.2]; rfl) rfl (by decide)) (f.2.2.2 v2 12 1 vR kv2 hrvR (by rw [kvR.2]; rfl) rfl (by decide)) (congrArg Int32.toInt (f.2.2.1 v2 12 0 kv2 (by decide) (by decide))) hs9
  have hv0 := PRr_fr f kv1 kuA (eMf f kv2 hruV kuV rfl (by decide)) (by decide) (by decide) hv0
  have hk := HK_fr f kuS kv2 hruK kuK hruC kuC (by decide) (by decide) (by decide) (by decide) hk
  have hx := TBr_fr f kuT hruB kuB kv2 hruM kuM (by decide) (by decide) (by decide) (by decide) hx
  have ea361 := congrArg Int32.toInt (f.2.2.1 uF 8 9 kuF (by decide) (by decide))
  have ea362 := congrArg Int32.toInt (f.2.2.1 v2 12 0 kv2 (by decide) (by decide))
  have ea363 := congrArg Int32.toInt (f.2.2.1 v2 12 7 kv2 (by decide) (by decide))
  have ea364 := congrArg Int32.toInt (f.2.2.1 v1 11 4 kv1 (by decide) (by decide))
  have ea365 := congrArg Int32.toInt (f.2.2.1 v2 12 8 kv2 (by decide) (by decide))
  have wo := w
  refine s15_X12_undo w v2 kv2 u5 u53 u54 hpm  (fun r2 I L w f p2 => ?_)
  have ht : (I v1 4).toInt + (T : Int) = 6 := by rw [f.2.2.1 v1 11 4 kv1 (by decide) (by decide)]; exact ht
  have ha0 := ARr_same (f.2.2.2 uF 8 2 uQ kuF hak.1 (by rw [hak.2.1.2]; rfl) rfl (by decide)) (f.2.2.2 v2 12 3 vQ kv2 hak.2.2.1 (by rw [hak.2.2.2.1.2]; rfl) rfl (by decide)) (congrArg Int32.toInt (f.2.2.1 v2 12 0 kv2 (by decide) (by decide))) ha0
  have hwi := WI_fr f kuF kv2 (by decide) hwi
  have hlb := LB_fr f wo kuF kv2 (by decide) hlb
  have hfb := FB_fr f kuF kv2 (by decide) hfb
  have hpb := PB_fr f kv1 kuA kv2 (by decide) hpb
  have hsh : (I v2 39).toInt = -1 := by rw [f.2.2.1 v2 12 39 kv2 (by decide) (by decide)]; exact hsh
  have hak := AK_fr f wo kuF kv2 kuS luS hru62 ku62 (by decide) hak
  have hm0 := MAI_fr wo hpc.2.2.2.1 hpc.2.2.2.2.1 hm1 f (by decide) (by decide) hm0
  obtain ⟨er, hp0⟩ := PR_undo n24 qm (EQC_fr f hpc (by decide)) (f.2.2.1 v2 12 0 kv2 (by decide) (by decide)) p1 p2 hpA
  have hk2 : KP2 Z I uS u62 (I v2 0).toInt.toNat := by rw [(f.2.2.1 v2 12 0 kv2 (by decide) (by decide))]; exact KP2_fr f wo.1 kuS luS kv2 hru62 ku62 (by decide) (by decide) (by decide) hk2
  have hs0 := ARr_same (f.2.2.2 uF 8 1 uX kuF hruX (by rw [kuX.2]; rfl) rfl (by decide)) (f.2.2.2 v2 12 2 uY kv2 hruY (by rw [kuY.2]; rfl) rfl (by decide)) (congrArg Int32.toInt (f.2.2.1 v2 12 0 kv2 (by decide) (by decide))) hs0
  have hc0 := KC_fr f wo.1 kuS luS kv2 hru62 ku62 (by decide) (by decide) (by decide) (congrArg Int32.toInt (f.2.2.1 v2 12 0 kv2 (by decide) (by decide))) hc0
  have hs9 := ARr_same (f.2.2.2 uF 8 0 uR kuF hruR (by rw [kuR.2]; rfl) rfl (by decide)) (f.2.2.2 v2 12 1 vR kv2 hrvR (by rw [kvR.2]; rfl) rfl (by decide)) (congrArg Int32.toInt (f.2.2.1 v2 12 0 kv2 (by decide) (by decide))) hs9
  have hv0 := PRr_fr f kv1 kuA (eMf f kv2 hruV kuV rfl (by decide)) (by decide) (by decide) hv0
  have hk := HK_fr f kuS kv2 hruK kuK hruC kuC (by decide) (by decide) (by decide) (by decide) hk
  have hx := TBr_fr f kuT hruB kuB kv2 hruM kuM (by decide) (by decide) (by decide) (by decide) hx
  have ea366 := congrArg Int32.toInt (f.2.2.1 uF 8 9 kuF (by decide) (by decide))
  have ea367 := congrArg Int32.toInt (f.2.2.1 v2 12 0 kv2 (by decide) (by decide))
  have ea368 := congrArg Int32.toInt (f.2.2.1 v2 12 7 kv2 (by decide) (by decide))
  have ea369 := congrArg Int32.toInt (f.2.2.1 v1 11 4 kv1 (by decide) (by decide))
  have ea370 := congrArg Int32.toInt (f.2.2.1 v2 12 8 kv2 (by decide) (by decide))
  unfold f_L_law_b1760
  intro x ex
  have tx : x.toInt = v4.toInt + 6 := by rw [ex]; exact i_add rfl (show (6 : Int32).toInt = 6 from rfl) (by omega) (by omega)
  exact hK _ _ _ x ex (LInv_mk (Z := Z) (I := I) T uT uB uM uF uS uK uC uA uV uX uY uR vR uP x0 x2 u5 u53 u54 u62 x1 uQ vQ uW vW t30 t29 u5c t6 t9 t10 t11 t12 ⟨w, bd, kv1, kv2, kv3, hl, ht, hruT, kuT, hruB, kuB, hruM⟩ ⟨kuM, hx, hruF, kuF, (by omega), (by omega), (by omega), hruS, kuS, luS, hruK, kuK⟩ ⟨hruC, kuC, hk, hruA, kuA, hruV, kuV, hv0, hruX, kuX, hruY, kuY⟩ ⟨hruR, kuR, hrvR, kvR, hs0, hc0, hs9, hpc, hpm, hru62, ku62, hp0⟩ ⟨hk2, hm1, hm0, hak, ha0, hwi, hlb, hfb, hpb, hsh⟩)
set_option maxHeartbeats 4000000 in
set_option maxRecDepth 100000 in
theorem k_b1557 {xs : Nat → Int32} {Ls : Nat} {B : Nat × Nat} {K : Nat → Nat → Nat → Int32 → jZ → jI → jL → Prop} {v1 v2 v3 : Nat} {v4 : Int32} {Z : jZ} {I : jI} {L : jL} {T uT uB uM uF uS uK uC uA uV uX uY uR vR uP x0 x2 u5 u53 u54 u62 x1 uQ vQ uW vW t30 t29 u5c t6 t9 t10 t11 t12 : Nat} (g0 : LG0 B v1 v2 v3 T uT uB uM Z I) (g1 : LG1 v1 v2 v4 uT uB uM uF uS uK Z I) (g2 : LG2 v1 v2 uF uS uK uC uA uV uX uY Z I) (g3 : LG3 v1 v2 uF uS uX uY uR vR uP x0 x2 u5 u53 u54 u62 Z I) (g4 : LG4 v1 v2 uF uS uA uP x0 u62 x1 uQ vQ uW vW t30 t29 u5c t6 t9 t10 t11 t12 Z I) (hv : 0 ≤ v4.toInt ∧ v4.toInt + 6 ≤ (Ls : Int) ∧ (Ls : Int) ≤ 3072) (hK : ∀ (Z : jZ) (I : jI) (L : jL) (x : Int32), x = v4 + 6 → LInv B v1 v2 v3 x Z I → K v1 v2 v3 x Z I L) : f_L_law_b1557 xs Ls B K v1 v2 v3 v4 Z I L := by
  obtain ⟨w, bd, kv1, kv2, kv3, hl, ht, hruT, kuT, hruB, kuB, hruM⟩ := g0
  obtain ⟨kuM, hx, hruF, kuF, hx1, hx2, hx3, hruS, kuS, luS, hruK, kuK⟩ := g1
  obtain ⟨hruC, kuC, hk, hruA, kuA, hruV, kuV, hv0, hruX, kuX, hruY, kuY⟩ := g2
  obtain ⟨hruR, kuR, hrvR, kvR, hs0, hc0, hs9, hpc, hpm, hru62, ku62, hp0⟩ := g3
  obtain ⟨hk2, hm1, hm0, hak, ha0, hwi, hlb, hfb, hpb, hsh⟩ := g4
  unfold f_L_law_b1557
  refine ⟨vi_of (i_add rfl (show (1 : Int32).toInt = 1 from rfl) (by omega) (by omega)) (by omega) (by omega), ?_⟩
  have wo := w
  refine s_X11_rail w v1 _ kv1  (fun r1 I L w f => ?_)
  have ht : (I v1 4).toInt + (T : Int) = 6 := by rw [f.2.2.1 v1 11 4 kv1 (by decide) (by decide)]; exact ht
  have ha0 := ARr_same (f.2.2.2 uF 8 2 uQ kuF hak.1 (by rw [hak.2.1.2]; rfl) rfl (by decide)) (f.2.2.2 v2 12 3 vQ kv2 hak.2.2.1 (by rw [hak.2.2.2.1.2]; rfl) rfl (by decide)) (congrArg Int32.toInt (f.2.2.1 v2 12 0 kv2 (by decide) (by decide))) ha0
  have hwi := WI_fr f kuF kv2 (by decide) hwi
  have hlb := LB_fr f wo kuF kv2 (by decide) hlb
  have hfb := FB_fr f kuF kv2 (by decide) hfb
  have hpb := PB_fr f kv1 kuA kv2 (by decide) hpb
  have hsh : (I v2 39).toInt = -1 := by rw [f.2.2.1 v2 12 39 kv2 (by decide) (by decide)]; exact hsh
  have hak := AK_fr f wo kuF kv2 kuS luS hru62 ku62 (by decide) hak
  have hm0 := MAI_fr wo hpc.2.2.2.1 hpc.2.2.2.2.1 hm1 f (by decide) (by decide) hm0
  have hp0 := PR_same (EQC_fr f hpc (by decide)) (EQM_fr f kv2 hpm (by decide)) hp0
  have hk2 : KP2 Z I uS u62 (I v2 0).toInt.toNat := by rw [(f.2.2.1 v2 12 0 kv2 (by decide) (by decide))]; exact KP2_fr f wo.1 kuS luS kv2 hru62 ku62 (by decide) (by decide) (by decide) hk2
  have hs0 := ARr_same (f.2.2.2 uF 8 1 uX kuF hruX (by rw [kuX.2]; rfl) rfl (by decide)) (f.2.2.2 v2 12 2 uY kv2 hruY (by rw [kuY.2]; rfl) rfl (by decide)) (congrArg Int32.toInt (f.2.2.1 v2 12 0 kv2 (by decide) (by decide))) hs0
  have hc0 := KC_fr f wo.1 kuS luS kv2 hru62 ku62 (by decide) (by decide) (by decide) (congrArg Int32.toInt (f.2.2.1 v2 12 0 kv2 (by decide) (by decide))) hc0
  have hs9 := ARr_same (f.2.2.2 uF 8 0 uR kuF hruR (by rw [kuR.2]; rfl) rfl (by decide)) (f.2.2.2 v2 12 1 vR kv2 hrvR (by rw [kvR.2]; rfl) rfl (by decide)) (congrArg Int32.toInt (f.2.2.1 v2 12 0 kv2 (by decide) (by decide))) hs9
  have hv0 := PRr_fr f kv1 kuA (eMf f kv2 hruV kuV rfl (by decide)) (by decide) (by decide) hv0
  have hk := HK_fr f kuS kv2 hruK kuK hruC kuC (by decide) (by decide) (by decide) (by decide) hk
  have hx := TBr_fr f kuT hruB kuB kv2 hruM kuM (by decide) (by decide) (by decide) (by decide) hx
  have ea371 := congrArg Int32.toInt (f.2.2.1 uF 8 9 kuF (by decide) (by decide))
  have ea372 := congrArg Int32.toInt (f.2.2.1 v2 12 0 kv2 (by decide) (by decide))
  have ea373 := congrArg Int32.toInt (f.2.2.1 v2 12 7 kv2 (by decide) (by decide))
  have ea374 := congrArg Int32.toInt (f.2.2.1 v1 11 4 kv1 (by decide) (by decide))
  have ea375 := congrArg Int32.toInt (f.2.2.1 v2 12 8 kv2 (by decide) (by decide))
  refine ⟨vi_of (i_add rfl (show (1 : Int32).toInt = 1 from rfl) (by omega) (by omega)) (by omega) (by omega), ?_⟩
  have wo := w
  refine s_X12_rail w v2 _ kv2  (fun r2 I L w f => ?_)
  have ht : (I v1 4).toInt + (T : Int) = 6 := by rw [f.2.2.1 v1 11 4 kv1 (by decide) (by decide)]; exact ht
  have ha0 := ARr_same (f.2.2.2 uF 8 2 uQ kuF hak.1 (by rw [hak.2.1.2]; rfl) rfl (by decide)) (f.2.2.2 v2 12 3 vQ kv2 hak.2.2.1 (by rw [hak.2.2.2.1.2]; rfl) rfl (by decide)) (congrArg Int32.toInt (f.2.2.1 v2 12 0 kv2 (by decide) (by decide))) ha0
  have hwi := WI_fr f kuF kv2 (by decide) hwi
  have hlb := LB_fr f wo kuF kv2 (by decide) hlb
  have hfb := FB_fr f kuF kv2 (by decide) hfb
  have hpb := PB_fr f kv1 kuA kv2 (by decide) hpb
  have hsh : (I v2 39).toInt = -1 := by rw [f.2.2.1 v2 12 39 kv2 (by decide) (by decide)]; exact hsh
  have hak := AK_fr f wo kuF kv2 kuS luS hru62 ku62 (by decide) hak
  have hm0 := MAI_fr wo hpc.2.2.2.1 hpc.2.2.2.2.1 hm1 f (by decide) (by decide) hm0
  have hp0 := PR_same (EQC_fr f hpc (by decide)) (EQM_fr f kv2 hpm (by decide)) hp0
  have hk2 : KP2 Z I uS u62 (I v2 0).toInt.toNat := by rw [(f.2.2.1 v2 12 0 kv2 (by decide) (by decide))]; exact KP2_fr f wo.1 kuS luS kv2 hru62 ku62 (by decide) (by decide) (by decide) hk2
  have hs0 := ARr_same (f.2.2.2 uF 8 1 uX kuF hruX (by rw [kuX.2]; rfl) rfl (by decide)) (f.2.2.2 v2 12 2 uY kv2 hruY (by rw [kuY.2]; rfl) rfl (by decide)) (congrArg Int32.toInt (f.2.2.1 v2 12 0 kv2 (by decide) (by decide))) hs0
  have hc0 := KC_fr f wo.1 kuS luS kv2 hru62 ku62 (by decide) (by decide) (by decide) (congrArg Int32.toInt (f.2.2.1 v2 12 0 kv2 (by decide) (by decide))) hc0
  have hs9 := ARr_same (f.2.2.2 uF 8 0 uR kuF hruR (by rw [kuR.2]; rfl) rfl (by decide)) (f.2.2.2 v2 12 1 vR kv2 hrvR (by rw [kvR.2]; rfl) rfl (by decide)) (congrArg Int32.toInt (f.2.2.1 v2 12 0 kv2 (by decide) (by decide))) hs9
  have hv0 := PRr_fr f kv1 kuA (eMf f kv2 hruV kuV rfl (by decide)) (by decide) (by decide) hv0
  have hk := HK_fr f kuS kv2 hruK kuK hruC kuC (by decide) (by decide) (by decide) (by decide) hk
  have hx := TBr_fr f kuT hruB kuB kv2 hruM kuM (by decide) (by decide) (by decide) (by decide) hx
  have ea376 := congrArg Int32.toInt (f.2.2.1 uF 8 9 kuF (by decide) (by decide))
  have ea377 := congrArg Int32.toInt (f.2.2.1 v2 12 0 kv2 (by decide) (by decide))
  have ea378 := congrArg Int32.toInt (f.2.2.1 v2 12 7 kv2 (by decide) (by decide))
  have ea379 := congrArg Int32.toInt (f.2.2.1 v1 11 4 kv1 (by decide) (by decide))
  have ea380 := congrArg Int32.toInt (f.2.2.1 v2 12 8 kv2 (by decide) (by decide))
  unfold f_L_law_b1760
  intro x ex
  have tx : x.toInt = v4.toInt + 6 := by rw [ex]; exact i_add rfl (show (6 : Int32).toInt = 6 from rfl) (by omega) (by omega)
  exact hK _ _ _ x ex (LInv_mk (Z := Z) (I := I) T uT uB uM uF uS uK uC uA uV uX uY uR vR uP x0 x2 u5 u53 u54 u62 x1 uQ vQ uW vW t30 t29 u5c t6 t9 t10 t11 t12 ⟨w, bd, kv1, kv2, kv3, hl, ht, hruT, kuT, hruB, kuB, hruM⟩ ⟨kuM, hx, hruF, kuF, (by omega), (by omega), (by omega), hruS, kuS, luS, hruK, kuK⟩ ⟨hruC, kuC, hk, hruA, kuA, hruV, kuV, hv0, hruX, kuX, hruY, kuY⟩ ⟨hruR, kuR, hrvR, kvR, hs0, hc0, hs9, hpc, hpm, hru62, ku62, hp0⟩ ⟨hk2, hm1, hm0, hak, ha0, hwi, hlb, hfb, hpb, hsh⟩)
set_option maxHeartbeats 4000000 in
set_option maxRecDepth 100000 in
theorem k_b1582 {xs : Nat → Int32} {Ls : Nat} {B : Nat × Nat} {K : Nat → Nat → Nat → Int32 → jZ → jI → jL → Prop} {v1 v2 v3 : Nat} {v4 : Int32} {Z : jZ} {I : jI} {L : jL} {T uT uB uM uF uS uK uC uA uV uX uY uR vR uP x0 x2 u5 u53 u54 u62 x1 uQ vQ uW vW t30 t29 u5c t6 t9 t10 t11 t12 : Nat} (g0 : LG0 B v1 v2 v3 T uT uB uM Z I) (g1 : LG1 v1 v2 v4 uT uB uM uF uS uK Z I) (g2 : LG2 v1 v2 uF uS uK uC uA uV uX uY Z I) (g3 : LG3 v1 v2 uF uS uX uY uR vR uP x0 x2 u5 u53 u54 u62 Z I) (g4 : LG4 v1 v2 uF uS uA uP x0 u62 x1 uQ vQ uW vW t30 t29 u5c t6 t9 t10 t11 t12 Z I) (hv : 0 ≤ v4.toInt ∧ v4.toInt + 6 ≤ (Ls : Int) ∧ (Ls : Int) ≤ 3072) (hK : ∀ (Z : jZ) (I : jI) (L : jL) (x : Int32), x = v4 + 6 → LInv B v1 v2 v3 x Z I → K v1 v2 v3 x Z I L) : f_L_law_b1582 xs Ls B K v1 v2 v3 v4 Z I L := by
  obtain ⟨w, bd, kv1, kv2, kv3, hl, ht, hruT, kuT, hruB, kuB, hruM⟩ := g0
  obtain ⟨kuM, hx, hruF, kuF, hx1, hx2, hx3, hruS, kuS, luS, hruK, kuK⟩ := g1
  obtain ⟨hruC, kuC, hk, hruA, kuA, hruV, kuV, hv0, hruX, kuX, hruY, kuY⟩ := g2
  obtain ⟨hruR, kuR, hrvR, kvR, hs0, hc0, hs9, hpc, hpm, hru62, ku62, hp0⟩ := g3
  obtain ⟨hk2, hm1, hm0, hak, ha0, hwi, hlb, hfb, hpb, hsh⟩ := g4
  unfold f_L_law_b1582
  refine ⟨vi_of (i_add rfl (show (1 : Int32).toInt = 1 from rfl) (by omega) (by omega)) (by omega) (by omega), ?_⟩
  refine ⟨vi_of (i_add rfl (show (2 : Int32).toInt = 2 from rfl) (by omega) (by omega)) (by omega) (by omega), ?_⟩
  have wo := w
  refine s_X11_rules w v1 _ _ kv1  (fun r1 I L w f => ?_)
  have ht : (I v1 4).toInt + (T : Int) = 6 := by rw [f.2.2.1 v1 11 4 kv1 (by decide) (by decide)]; exact ht
  have ha0 := ARr_same (f.2.2.2 uF 8 2 uQ kuF hak.1 (by rw [hak.2.1.2]; rfl) rfl (by decide)) (f.2.2.2 v2 12 3 vQ kv2 hak.2.2.1 (by rw [hak.2.2.2.1.2]; rfl) rfl (by decide)) (congrArg Int32.toInt (f.2.2.1 v2 12 0 kv2 (by decide) (by decide))) ha0
  have hwi := WI_fr f kuF kv2 (by decide) hwi
  have hlb := LB_fr f wo kuF kv2 (by decide) hlb
  have hfb := FB_fr f kuF kv2 (by decide) hfb
  have hpb := PB_fr f kv1 kuA kv2 (by decide) hpb
  have hsh : (I v2 39).toInt = -1 := by rw [f.2.2.1 v2 12 39 kv2 (by decide) (by decide)]; exact hsh
  have hak := AK_fr f wo kuF kv2 kuS luS hru62 ku62 (by decide) hak
  have hm0 := MAI_fr wo hpc.2.2.2.1 hpc.2.2.2.2.1 hm1 f (by decide) (by decide) hm0
  have hp0 := PR_same (EQC_fr f hpc (by decide)) (EQM_fr f kv2 hpm (by decide)) hp0
  have hk2 : KP2 Z I uS u62 (I v2 0).toInt.toNat := by rw [(f.2.2.1 v2 12 0 kv2 (by decide) (by decide))]; exact KP2_fr f wo.1 kuS luS kv2 hru62 ku62 (by decide) (by decide) (by decide) hk2
  have hs0 := ARr_same (f.2.2.2 uF 8 1 uX kuF hruX (by rw [kuX.2]; rfl) rfl (by decide)) (f.2.2.2 v2 12 2 uY kv2 hruY (by rw [kuY.2]; rfl) rfl (by decide)) (congrArg Int32.toInt (f.2.2.1 v2 12 0 kv2 (by decide) (by decide))) hs0
  have hc0 := KC_fr f wo.1 kuS luS kv2 hru62 ku62 (by decide) (by decide) (by decide) (congrArg Int32.toInt (f.2.2.1 v2 12 0 kv2 (by decide) (by decide))) hc0
  have hs9 := ARr_same (f.2.2.2 uF 8 0 uR kuF hruR (by rw [kuR.2]; rfl) rfl (by decide)) (f.2.2.2 v2 12 1 vR kv2 hrvR (by rw [kvR.2]; rfl) rfl (by decide)) (congrArg Int32.toInt (f.2.2.1 v2 12 0 kv2 (by decide) (by decide))) hs9
  have hv0 := PRr_fr f kv1 kuA (eMf f kv2 hruV kuV rfl (by decide)) (by decide) (by decide) hv0
  have hk := HK_fr f kuS kv2 hruK kuK hruC kuC (by decide) (by decide) (by decide) (by decide) hk
  have hx := TBr_fr f kuT hruB kuB kv2 hruM kuM (by decide) (by decide) (by decide) (by decide) hx
  have ea381 := congrArg Int32.toInt (f.2.2.1 uF 8 9 kuF (by decide) (by decide))
  have ea382 := congrArg Int32.toInt (f.2.2.1 v2 12 0 kv2 (by decide) (by decide))
  have ea383 := congrArg Int32.toInt (f.2.2.1 v2 12 7 kv2 (by decide) (by decide))
  have ea384 := congrArg Int32.toInt (f.2.2.1 v1 11 4 kv1 (by decide) (by decide))
  have ea385 := congrArg Int32.toInt (f.2.2.1 v2 12 8 kv2 (by decide) (by decide))
  refine ⟨vi_of (i_add rfl (show (1 : Int32).toInt = 1 from rfl) (by omega) (by omega)) (by omega) (by omega), ?_⟩
  refine ⟨vi_of (i_add rfl (show (2 : Int32).toInt = 2 from rfl) (by omega) (by omega)) (by omega) (by omega), ?_⟩
  have wo := w
  refine s_X12_rules w v2 _ _ kv2  (fun r2 I L w f => ?_)
  have ht : (I v1 4).toInt + (T : Int) = 6 := by rw [f.2.2.1 v1 11 4 kv1 (by decide) (by decide)]; exact ht
  have ha0 := ARr_same (f.2.2.2 uF 8 2 uQ kuF hak.1 (by rw [hak.2.1.2]; rfl) rfl (by decide)) (f.2.2.2 v2 12 3 vQ kv2 hak.2.2.1 (by rw [hak.2.2.2.1.2]; rfl) rfl (by decide)) (congrArg Int32.toInt (f.2.2.1 v2 12 0 kv2 (by decide) (by decide))) ha0
  have hwi := WI_fr f kuF kv2 (by decide) hwi
  have hlb := LB_fr f wo kuF kv2 (by decide) hlb
  have hfb := FB_fr f kuF kv2 (by decide) hfb
  have hpb := PB_fr f kv1 kuA kv2 (by decide) hpb
  have hsh : (I v2 39).toInt = -1 := by rw [f.2.2.1 v2 12 39 kv2 (by decide) (by decide)]; exact hsh
  have hak := AK_fr f wo kuF kv2 kuS luS hru62 ku62 (by decide) hak
  have hm0 := MAI_fr wo hpc.2.2.2.1 hpc.2.2.2.2.1 hm1 f (by decide) (by decide) hm0
  have hp0 := PR_same (EQC_fr f hpc (by decide)) (EQM_fr f kv2 hpm (by decide)) hp0
  have hk2 : KP2 Z I uS u62 (I v2 0).toInt.toNat := by rw [(f.2.2.1 v2 12 0 kv2 (by decide) (by decide))]; exact KP2_fr f wo.1 kuS luS kv2 hru62 ku62 (by decide) (by decide) (by decide) hk2
  have hs0 := ARr_same (f.2.2.2 uF 8 1 uX kuF hruX (by rw [kuX.2]; rfl) rfl (by decide)) (f.2.2.2 v2 12 2 uY kv2 hruY (by rw [kuY.2]; rfl) rfl (by decide)) (congrArg Int32.toInt (f.2.2.1 v2 12 0 kv2 (by decide) (by decide))) hs0
  have hc0 := KC_fr f wo.1 kuS luS kv2 hru62 ku62 (by decide) (by decide) (by decide) (congrArg Int32.toInt (f.2.2.1 v2 12 0 kv2 (by decide) (by decide))) hc0
  have hs9 := ARr_same (f.2.2.2 uF 8 0 uR kuF hruR (by rw [kuR.2]; rfl) rfl (by decide)) (f.2.2.2 v2 12 1 vR kv2 hrvR (by rw [kvR.2]; rfl) rfl (by decide)) (congrArg Int32.toInt (f.2.2.1 v2 12 0 kv2 (by decide) (by decide))) hs9
  have hv0 := PRr_fr f kv1 kuA (eMf f kv2 hruV kuV rfl (by decide)) (by decide) (by decide) hv0
  have hk := HK_fr f kuS kv2 hruK kuK hruC kuC (by decide) (by decide) (by decide) (by decide) hk
  have hx := TBr_fr f kuT hruB kuB kv2 hruM kuM (by decide) (by decide) (by decide) (by decide) hx
  have ea386 := congrArg Int32.toInt (f.2.2.1 uF 8 9 kuF (by decide) (by decide))
  have ea387 := congrArg Int32.toInt (f.2.2.1 v2 12 0 kv2 (by decide) (by decide))
  have ea388 := congrArg Int32.toInt (f.2.2.1 v2 12 7 kv2 (by decide) (by decide))
  have ea389 := congrArg Int32.toInt (f.2.2.1 v1 11 4 kv1 (by decide) (by decide))
  have ea390 := congrArg Int32.toInt (f.2.2.1 v2 12 8 kv2 (by decide) (by decide))
  unfold f_L_law_b1760
  intro x ex
  have tx : x.toInt = v4.toInt + 6 := by rw [ex]; exact i_add rfl (show (6 : Int32).toInt = 6 from rfl) (by omega) (by omega)
  exact hK _ _ _ x ex (LInv_mk (Z := Z) (I := I) T uT uB uM uF uS uK uC uA uV uX uY uR vR uP x0 x2 u5 u53 u54 u62 x1 uQ vQ uW vW t30 t29 u5c t6 t9 t10 t11 t12 ⟨w, bd, kv1, kv2, kv3, hl, ht, hruT, kuT, hruB, kuB, hruM⟩ ⟨kuM, hx, hruF, kuF, (by omega), (by omega), (by omega), hruS, kuS, luS, hruK, kuK⟩ ⟨hruC, kuC, hk, hruA, kuA, hruV, kuV, hv0, hruX, kuX, hruY, kuY⟩ ⟨hruR, kuR, hrvR, kvR, hs0, hc0, hs9, hpc, hpm, hru62, ku62, hp0⟩ ⟨hk2, hm1, hm0, hak, ha0, hwi, hlb, hfb, hpb, hsh⟩)
set_option maxHeartbeats 4000000 in
set_option maxRecDepth 100000 in
theorem k_b1619 {xs : Nat → Int32} {Ls : Nat} {B : Nat × Nat} {K : Nat → Nat → Nat → Int32 → jZ → jI → jL → Prop} {v1 v2 v3 : Nat} {v4 : Int32} {Z : jZ} {I : jI} {L : jL} {T uT uB uM uF uS uK uC uA uV uX uY uR vR uP x0 x2 u5 u53 u54 u62 x1 uQ vQ uW vW t30 t29 u5c t6 t9 t10 t11 t12 : Nat} (g0 : LG0 B v1 v2 v3 T uT uB uM Z I) (g1 : LG1 v1 v2 v4 uT uB uM uF uS uK Z I) (g2 : LG2 v1 v2 uF uS uK uC uA uV uX uY Z I) (g3 : LG3 v1 v2 uF uS uX uY uR vR uP x0 x2 u5 u53 u54 u62 Z I) (g4 : LG4 v1 v2 uF uS uA uP x0 u62 x1 uQ vQ uW vW t30 t29 u5c t6 t9 t10 t11 t12 Z I) (hv : 0 ≤ v4.toInt ∧ v4.toInt + 6 ≤ (Ls : Int) ∧ (Ls : Int) ≤ 3072) (hK : ∀ (Z : jZ) (I : jI) (L : jL) (x : Int32), x = v4 + 6 → LInv B v1 v2 v3 x Z I → K v1 v2 v3 x Z I L) : f_L_law_b1619 xs Ls B K v1 v2 v3 v4 Z I L := by
  obtain ⟨w, bd, kv1, kv2, kv3, hl, ht, hruT, kuT, hruB, kuB, hruM⟩ := g0
  obtain ⟨kuM, hx, hruF, kuF, hx1, hx2, hx3, hruS, kuS, luS, hruK, kuK⟩ := g1
  obtain ⟨hruC, kuC, hk, hruA, kuA, hruV, kuV, hv0, hruX, kuX, hruY, kuY⟩ := g2
  obtain ⟨hruR, kuR, hrvR, kvR, hs0, hc0, hs9, hpc, hpm, hru62, ku62, hp0⟩ := g3
  obtain ⟨hk2, hm1, hm0, hak, ha0, hwi, hlb, hfb, hpb, hsh⟩ := g4
  unfold f_L_law_b1619
  refine ⟨vi_of (i_add rfl (show (1 : Int32).toInt = 1 from rfl) (by omega) (by omega)) (by omega) (by omega), ?_⟩
  have wo := w
  refine s_X11_feast w bd v1 _ kv1  (fun r1 Z I L w bd f cp => ?_)
  have ht : (I v1 4).toInt + (T : Int) = 6 := by rw [f.2.2.1 v1 11 4 kv1 (by decide) (by decide)]; exact ht
  have ha0 := ARr_same (f.2.2.2 uF 8 2 uQ kuF hak.1 (by rw [hak.2.1.2]; rfl) rfl (by decide)) (f.2.2.2 v2 12 3 vQ kv2 hak.2.2.1 (by rw [hak.2.2.2.1.2]; rfl) rfl (by decide)) (congrArg Int32.toInt (f.2.2.1 v2 12 0 kv2 (by decide) (by decide))) ha0
  have hwi := WI_fr f kuF kv2 (by decide) hwi
  have hlb := LB_fr f wo kuF kv2 (by decide) hlb
  have hfb := FB_fr f kuF kv2 (by decide) hfb
  have hpb := PB_fr f kv1 kuA kv2 (by decide) hpb
  have hsh : (I v2 39).toInt = -1 := by rw [f.2.2.1 v2 12 39 kv2 (by decide) (by decide)]; exact hsh
  have hak := AK_fr f wo kuF kv2 kuS luS hru62 ku62 (by decide) hak
  have hm0 := MAI_fr wo hpc.2.2.2.1 hpc.2.2.2.2.1 hm1 f (by decide) (by decide) hm0
  have hp0 := PR_same (EQC_fr f hpc (by decide)) (EQM_fr f kv2 hpm (by decide)) hp0
  have hk2 : KP2 Z I uS u62 (I v2 0).toInt.toNat := by rw [(f.2.2.1 v2 12 0 kv2 (by decide) (by decide))]; exact KP2_fr f wo.1 kuS luS kv2 hru62 ku62 (by decide) (by decide) (by decide) hk2
  have hs0 := ARr_same (f.2.2.2 uF 8 1 uX kuF hruX (by rw [kuX.2]; rfl) rfl (by decide)) (f.2.2.2 v2 12 2 uY kv2 hruY (by rw [kuY.2]; rfl) rfl (by decide)) (congrArg Int32.toInt (f.2.2.1 v2 12 0 kv2 (by decide) (by decide))) hs0
  have hc0 := KC_fr f wo.1 kuS luS kv2 hru62 ku62 (by decide) (by decide) (by decide) (congrArg Int32.toInt (f.2.2.1 v2 12 0 kv2 (by decide) (by decide))) hc0
  have hs9 := ARr_same (f.2.2.2 uF 8 0 uR kuF hruR (by rw [kuR.2]; rfl) rfl (by decide)) (f.2.2.2 v2 12 1 vR kv2 hrvR (by rw [kvR.2]; rfl) rfl (by decide)) (congrArg Int32.toInt (f.2.2.1 v2 12 0 kv2 (by decide) (by decide))) hs9
  have hv0 := PRr_fr f kv1 kuA (eMf f kv2 hruV kuV rfl (by decide)) (by decide) (by decide) hv0
  have hk := HK_fr f kuS kv2 hruK kuK hruC kuC (by decide) (by decide) (by decide) (by decide) hk
  have hx := TBr_fr f kuT hruB kuB kv2 hruM kuM (by decide) (by decide) (by decide) (by decide) hx
  have ea391 := congrArg Int32.toInt (f.2.2.1 uF 8 9 kuF (by decide) (by decide))
  have ea392 := congrArg Int32.toInt (f.2.2.1 v2 12 0 kv2 (by decide) (by decide))
  have ea393 := congrArg Int32.toInt (f.2.2.1 v2 12 7 kv2 (by decide) (by decide))
  have ea394 := congrArg Int32.toInt (f.2.2.1 v1 11 4 kv1 (by decide) (by decide))
  have ea395 := congrArg Int32.toInt (f.2.2.1 v2 12 8 kv2 (by decide) (by decide))
  have hm1 := (f.2.1 uP 4 1 hpc.2.2.2.1 (by decide) (by decide)).trans hm1
  have hpc := PCs_x f.1 (fun a c j ka hc => f.2.1 a c j ka (by omega) (by omega)) kv1 hpc
  have hpm := PMs_x f.1 (fun j hj => f.2.1 v2 12 j kv2 (by omega) (by omega)) hpm
  have hru62 := (f.2.1 v2 12 62 kv2 (by decide) (by decide)).trans hru62
  have ku62 := (f.1 _ _ ku62).1
  have hruX := (f.2.1 uF 8 1 kuF (by decide) (by decide)).trans hruX
  have kuX := (f.1 _ _ kuX).1
  have hruY := (f.2.1 v2 12 2 kv2 (by decide) (by decide)).trans hruY
  have kuY := (f.1 _ _ kuY).1
  have hruR := (f.2.1 uF 8 0 kuF (by decide) (by decide)).trans hruR
  have kuR := (f.1 _ _ kuR).1
  have hrvR := (f.2.1 v2 12 1 kv2 (by decide) (by decide)).trans hrvR
  have kvR := (f.1 _ _ kvR).1
  have hruA := (f.2.1 v1 11 3 kv1 (by decide) (by decide)).trans hruA
  have kuA := (f.1 _ _ kuA).1
  have hruV := (f.2.1 v2 12 13 kv2 (by decide) (by decide)).trans hruV
  have kuV := (f.1 _ _ kuV).1
  have hruS := (f.2.1 v1 11 8 kv1 (by decide) (by decide)).trans hruS
  have luS := (f.1 _ _ kuS).2.trans luS
  have kuS := (f.1 _ _ kuS).1
  have hruK := (f.2.1 v2 12 63 kv2 (by decide) (by decide)).trans hruK
  have kuK := (f.1 _ _ kuK).1
  have hruC := (f.2.1 v2 12 64 kv2 (by decide) (by decide)).trans hruC
  have kuC := (f.1 _ _ kuC).1
  have hruB := (f.2.1 uT 10 0 kuT (by decide) (by decide)).trans hruB
  have hruM := (f.2.1 v2 12 18 kv2 (by decide) (by decide)).trans hruM
  have kuB := (f.1 _ _ kuB).1
  have kuM := (f.1 _ _ kuM).1
  have hruT := (f.2.1 v1 11 0 kv1 (by decide) (by decide)).trans hruT
  have kuT := (f.1 _ _ kuT).1
  have hruF := (f.2.1 v1 11 2 kv1 (by decide) (by decide)).trans hruF
  have kuF := (f.1 _ _ kuF).1
  have hl : jlen Z v3 = 1 := (f.1 _ _ kv3).2.trans hl
  have kv1 := (f.1 _ _ kv1).1
  have kv2 := (f.1 _ _ kv2).1
  have kv3 := (f.1 _ _ kv3).1
  refine ⟨vi_of (i_add rfl (show (1 : Int32).toInt = 1 from rfl) (by omega) (by omega)) (by omega) (by omega), ?_⟩
  have wo := w
  refine s_X12_feast w bd v2 _ kv2  (fun r2 Z I L w bd f cp => ?_)
  have ht : (I v1 4).toInt + (T : Int) = 6 := by rw [f.2.2.1 v1 11 4 kv1 (by decide) (by decide)]; exact ht
  have ha0 := ARr_same (f.2.2.2 uF 8 2 uQ kuF hak.1 (by rw [hak.2.1.2]; rfl) rfl (by decide)) (f.2.2.2 v2 12 3 vQ kv2 hak.2.2.1 (by rw [hak.2.2.2.1.2]; rfl) rfl (by decide)) (congrArg Int32.toInt (f.2.2.1 v2 12 0 kv2 (by decide) (by decide))) ha0
  have hwi := WI_fr f kuF kv2 (by decide) hwi
  have hlb := LB_fr f wo kuF kv2 (by decide) hlb
  have hfb := FB_fr f kuF kv2 (by decide) hfb
  have hpb := PB_fr f kv1 kuA kv2 (by decide) hpb
  have hsh : (I v2 39).toInt = -1 := by rw [f.2.2.1 v2 12 39 kv2 (by decide) (by decide)]; exact hsh
  have hak := AK_fr f wo kuF kv2 kuS luS hru62 ku62 (by decide) hak
  have hm0 := MAI_fr wo hpc.2.2.2.1 hpc.2.2.2.2.1 hm1 f (by decide) (by decide) hm0
  have hp0 := PR_same (EQC_fr f hpc (by decide)) (EQM_fr f kv2 hpm (by decide)) hp0
  have hk2 : KP2 Z I uS u62 (I v2 0).toInt.toNat := by rw [(f.2.2.1 v2 12 0 kv2 (by decide) (by decide))]; exact KP2_fr f wo.1 kuS luS kv2 hru62 ku62 (by decide) (by decide) (by decide) hk2
  have hs0 := ARr_same (f.2.2.2 uF 8 1 uX kuF hruX (by rw [kuX.2]; rfl) rfl (by decide)) (f.2.2.2 v2 12 2 uY kv2 hruY (by rw [kuY.2]; rfl) rfl (by decide)) (congrArg Int32.toInt (f.2.2.1 v2 12 0 kv2 (by decide) (by decide))) hs0
  have hc0 := KC_fr f wo.1 kuS luS kv2 hru62 ku62 (by decide) (by decide) (by decide) (congrArg Int32.toInt (f.2.2.1 v2 12 0 kv2 (by decide) (by decide))) hc0
  have hs9 := ARr_same (f.2.2.2 uF 8 0 uR kuF hruR (by rw [kuR.2]; rfl) rfl (by decide)) (f.2.2.2 v2 12 1 vR kv2 hrvR (by rw [kvR.2]; rfl) rfl (by decide)) (congrArg Int32.toInt (f.2.2.1 v2 12 0 kv2 (by decide) (by decide))) hs9
  have hv0 := PRr_fr f kv1 kuA (eMf f kv2 hruV kuV rfl (by decide)) (by decide) (by decide) hv0
  have hk := HK_fr f kuS kv2 hruK kuK hruC kuC (by decide) (by decide) (by decide) (by decide) hk
  have hx := TBr_fr f kuT hruB kuB kv2 hruM kuM (by decide) (by decide) (by decide) (by decide) hx
  have ea396 := congrArg Int32.toInt (f.2.2.1 uF 8 9 kuF (by decide) (by decide))
  have ea397 := congrArg Int32.toInt (f.2.2.1 v2 12 0 kv2 (by decide) (by decide))
  have ea398 := congrArg Int32.toInt (f.2.2.1 v2 12 7 kv2 (by decide) (by decide))
  have ea399 := congrArg Int32.toInt (f.2.2.1 v1 11 4 kv1 (by decide) (by decide))
  have ea400 := congrArg Int32.toInt (f.2.2.1 v2 12 8 kv2 (by decide) (by decide))
  have hm1 := (f.2.1 uP 4 1 hpc.2.2.2.1 (by decide) (by decide)).trans hm1
  have hpc := PCs_x f.1 (fun a c j ka hc => f.2.1 a c j ka (by omega) (by omega)) kv1 hpc
  have hpm := PMs_x f.1 (fun j hj => f.2.1 v2 12 j kv2 (by omega) (by omega)) hpm
  have hru62 := (f.2.1 v2 12 62 kv2 (by decide) (by decide)).trans hru62
  have ku62 := (f.1 _ _ ku62).1
  have hruX := (f.2.1 uF 8 1 kuF (by decide) (by decide)).trans hruX
  have kuX := (f.1 _ _ kuX).1
  have hruY := (f.2.1 v2 12 2 kv2 (by decide) (by decide)).trans hruY
  have kuY := (f.1 _ _ kuY).1
  have hruR := (f.2.1 uF 8 0 kuF (by decide) (by decide)).trans hruR
  have kuR := (f.1 _ _ kuR).1
  have hrvR := (f.2.1 v2 12 1 kv2 (by decide) (by decide)).trans hrvR
  have kvR := (f.1 _ _ kvR).1
  have hruA := (f.2.1 v1 11 3 kv1 (by decide) (by decide)).trans hruA
  have kuA := (f.1 _ _ kuA).1
  have hruV := (f.2.1 v2 12 13 kv2 (by decide) (by decide)).trans hruV
  have kuV := (f.1 _ _ kuV).1
  have hruS := (f.2.1 v1 11 8 kv1 (by decide) (by decide)).trans hruS
  have luS := (f.1 _ _ kuS).2.trans luS
  have kuS := (f.1 _ _ kuS).1
  have hruK := (f.2.1 v2 12 63 kv2 (by decide) (by decide)).trans hruK
  have kuK := (f.1 _ _ kuK).1
  have hruC := (f.2.1 v2 12 64 kv2 (by decide) (by decide)).trans hruC
  have kuC := (f.1 _ _ kuC).1
  have hruB := (f.2.1 uT 10 0 kuT (by decide) (by decide)).trans hruB
  have hruM := (f.2.1 v2 12 18 kv2 (by decide) (by decide)).trans hruM
  have kuB := (f.1 _ _ kuB).1
  have kuM := (f.1 _ _ kuM).1
  have hruT := (f.2.1 v1 11 0 kv1 (by decide) (by decide)).trans hruT
  have kuT := (f.1 _ _ kuT).1
  have hruF := (f.2.1 v1 11 2 kv1 (by decide) (by decide)).trans hruF
  have kuF := (f.1 _ _ kuF).1
  have hl : jlen Z v3 = 1 := (f.1 _ _ kv3).2.trans hl
  have kv1 := (f.1 _ _ kv1).1
  have kv2 := (f.1 _ _ kv2).1
  have kv3 := (f.1 _ _ kv3).1
  unfold f_L_law_b1760
  intro x ex
  have tx : x.toInt = v4.toInt + 6 := by rw [ex]; exact i_add rfl (show (6 : Int32).toInt = 6 from rfl) (by omega) (by omega)
  exact hK _ _ _ x ex (LInv_mk (Z := Z) (I := I) T uT uB uM uF uS uK uC uA uV uX uY uR vR uP x0 x2 u5 u53 u54 u62 x1 uQ vQ uW vW t30 t29 u5c t6 t9 t10 t11 t12 ⟨w, bd, kv1, kv2, kv3, hl, ht, hruT, kuT, hruB, kuB, hruM⟩ ⟨kuM, hx, hruF, kuF, (by omega), (by omega), (by omega), hruS, kuS, luS, hruK, kuK⟩ ⟨hruC, kuC, hk, hruA, kuA, hruV, kuV, hv0, hruX, kuX, hruY, kuY⟩ ⟨hruR, kuR, hrvR, kvR, hs0, hc0, hs9, hpc, hpm, hru62, ku62, hp0⟩ ⟨hk2, hm1, hm0, hak, ha0, hwi, hlb, hfb, hpb, hsh⟩)
set_option maxHeartbeats 4000000 in
set_option maxRecDepth 100000 in
theorem k_b1644 {xs : Nat → Int32} {Ls : Nat} {B : Nat × Nat} {K : Nat → Nat → Nat → Int32 → jZ → jI → jL → Prop} {v1 v2 v3 : Nat} {v4 : Int32} {Z : jZ} {I : jI} {L : jL} {T uT uB uM uF uS uK uC uA uV uX uY uR vR uP x0 x2 u5 u53 u54 u62 x1 uQ vQ uW vW t30 t29 u5c t6 t9 t10 t11 t12 : Nat} (g0 : LG0 B v1 v2 v3 T uT uB uM Z I) (g1 : LG1 v1 v2 v4 uT uB uM uF uS uK Z I) (g2 : LG2 v1 v2 uF uS uK uC uA uV uX uY Z I) (g3 : LG3 v1 v2 uF uS uX uY uR vR uP x0 x2 u5 u53 u54 u62 Z I) (g4 : LG4 v1 v2 uF uS uA uP x0 u62 x1 uQ vQ uW vW t30 t29 u5c t6 t9 t10 t11 t12 Z I) (hv : 0 ≤ v4.toInt ∧ v4.toInt + 6 ≤ (Ls : Int) ∧ (Ls : Int) ≤ 3072) (hK : ∀ (Z : jZ) (I : jI) (L : jL) (x : Int32), x = v4 + 6 → LInv B v1 v2 v3 x Z I → K v1 v2 v3 x Z I L) : f_L_law_b1644 xs Ls B K v1 v2 v3 v4 Z I L := by
  obtain ⟨w, bd, kv1, kv2, kv3, hl, ht, hruT, kuT, hruB, kuB, hruM⟩ := g0
  obtain ⟨kuM, hx, hruF, kuF, hx1, hx2, hx3, hruS, kuS, luS, hruK, kuK⟩ := g1
  obtain ⟨hruC, kuC, hk, hruA, kuA, hruV, kuV, hv0, hruX, kuX, hruY, kuY⟩ := g2
  obtain ⟨hruR, kuR, hrvR, kvR, hs0, hc0, hs9, hpc, hpm, hru62, ku62, hp0⟩ := g3
  obtain ⟨hk2, hm1, hm0, hak, ha0, hwi, hlb, hfb, hpb, hsh⟩ := g4
  unfold f_L_law_b1644
  have wo := w
  refine s_X11_jam w bd v1 kv1  (fun r1 Z I L w bd f cp => ?_)
  have ht : (I v1 4).toInt + (T : Int) = 6 := by rw [f.2.2.1 v1 11 4 kv1 (by decide) (by decide)]; exact ht
  have ha0 := ARr_same (f.2.2.2 uF 8 2 uQ kuF hak.1 (by rw [hak.2.1.2]; rfl) rfl (by decide)) (f.2.2.2 v2 12 3 vQ kv2 hak.2.2.1 (by rw [hak.2.2.2.1.2]; rfl) rfl (by decide)) (congrArg Int32.toInt (f.2.2.1 v2 12 0 kv2 (by decide) (by decide))) ha0
  have hwi := WI_fr f kuF kv2 (by decide) hwi
  have hlb := LB_fr f wo kuF kv2 (by decide) hlb
  have hfb := FB_fr f kuF kv2 (by decide) hfb
  have hpb := PB_fr f kv1 kuA kv2 (by decide) hpb
  have hsh : (I v2 39).toInt = -1 := by rw [f.2.2.1 v2 12 39 kv2 (by decide) (by decide)]; exact hsh
  have hak := AK_fr f wo kuF kv2 kuS luS hru62 ku62 (by decide) hak
  have hm0 := MAI_fr wo hpc.2.2.2.1 hpc.2.2.2.2.1 hm1 f (by decide) (by decide) hm0
  have hp0 := PR_same (EQC_fr f hpc (by decide)) (EQM_fr f kv2 hpm (by decide)) hp0
  have hk2 : KP2 Z I uS u62 (I v2 0).toInt.toNat := by rw [(f.2.2.1 v2 12 0 kv2 (by decide) (by decide))]; exact KP2_fr f wo.1 kuS luS kv2 hru62 ku62 (by decide) (by decide) (by decide) hk2
  have hs0 := ARr_same (f.2.2.2 uF 8 1 uX kuF hruX (by rw [kuX.2]; rfl) rfl (by decide)) (f.2.2.2 v2 12 2 uY kv2 hruY (by rw [kuY.2]; rfl) rfl (by decide)) (congrArg Int32.toInt (f.2.2.1 v2 12 0 kv2 (by decide) (by decide))) hs0
  have hc0 := KC_fr f wo.1 kuS luS kv2 hru62 ku62 (by decide) (by decide) (by decide) (congrArg Int32.toInt (f.2.2.1 v2 12 0 kv2 (by decide) (by decide))) hc0
  have hs9 := ARr_same (f.2.2.2 uF 8 0 uR kuF hruR (by rw [kuR.2]; rfl) rfl (by decide)) (f.2.2.2 v2 12 1 vR kv2 hrvR (by rw [kvR.2]; rfl) rfl (by decide)) (congrArg Int32.toInt (f.2.2.1 v2 12 0 kv2 (by decide) (by decide))) hs9
  have hv0 := PRr_fr f kv1 kuA (eMf f kv2 hruV kuV rfl (by decide)) (by decide) (by decide) hv0
  have hk := HK_fr f kuS kv2 hruK kuK hruC kuC (by decide) (by decide) (by decide) (by decide) hk
  have hx := TBr_fr f kuT hruB kuB kv2 hruM kuM (by decide) (by decide) (by decide) (by decide) hx
  have ea401 := congrArg Int32.toInt (f.2.2.1 uF 8 9 kuF (by decide) (by decide))
  have ea402 := congrArg Int32.toInt (f.2.2.1 v2 12 0 kv2 (by decide) (by decide))
  have ea403 := congrArg Int32.toInt (f.2.2.1 v2 12 7 kv2 (by decide) (by decide))
  have ea404 := congrArg Int32.toInt (f.2.2.1 v1 11 4 kv1 (by decide) (by decide))
  have ea405 := congrArg Int32.toInt (f.2.2.1 v2 12 8 kv2 (by decide) (by decide))
  have hm1 := (f.2.1 uP 4 1 hpc.2.2.2.1 (by decide) (by decide)).trans hm1
  have hpc := PCs_x f.1 (fun a c j ka hc => f.2.1 a c j ka (by omega) (by omega)) kv1 hpc
  have hpm := PMs_x f.1 (fun j hj => f.2.1 v2 12 j kv2 (by omega) (by omega)) hpm
  have hru62 := (f.2.1 v2 12 62 kv2 (by decide) (by decide)).trans hru62
  have ku62 := (f.1 _ _ ku62).1
  have hruX := (f.2.1 uF 8 1 kuF (by decide) (by decide)).trans hruX
  have kuX := (f.1 _ _ kuX).1
  have hruY := (f.2.1 v2 12 2 kv2 (by decide) (by decide)).trans hruY
  have kuY := (f.1 _ _ kuY).1
  have hruR := (f.2.1 uF 8 0 kuF (by decide) (by decide)).trans hruR
  have kuR := (f.1 _ _ kuR).1
  have hrvR := (f.2.1 v2 12 1 kv2 (by decide) (by decide)).trans hrvR
  have kvR := (f.1 _ _ kvR).1
  have hruA := (f.2.1 v1 11 3 kv1 (by decide) (by decide)).trans hruA
  have kuA := (f.1 _ _ kuA).1
  have hruV := (f.2.1 v2 12 13 kv2 (by decide) (by decide)).trans hruV
  have kuV := (f.1 _ _ kuV).1
  have hruS := (f.2.1 v1 11 8 kv1 (by decide) (by decide)).trans hruS
  have luS := (f.1 _ _ kuS).2.trans luS
  have kuS := (f.1 _ _ kuS).1
  have hruK := (f.2.1 v2 12 63 kv2 (by decide) (by decide)).trans hruK
  have kuK := (f.1 _ _ kuK).1
  have hruC := (f.2.1 v2 12 64 kv2 (by decide) (by decide)).trans hruC
  have kuC := (f.1 _ _ kuC).1
  have hruB := (f.2.1 uT 10 0 kuT (by decide) (by decide)).trans hruB
  have hruM := (f.2.1 v2 12 18 kv2 (by decide) (by decide)).trans hruM
  have kuB := (f.1 _ _ kuB).1
  have kuM := (f.1 _ _ kuM).1
  have hruT := (f.2.1 v1 11 0 kv1 (by decide) (by decide)).trans hruT
  have kuT := (f.1 _ _ kuT).1
  have hruF := (f.2.1 v1 11 2 kv1 (by decide) (by decide)).trans hruF
  have kuF := (f.1 _ _ kuF).1
  have hl : jlen Z v3 = 1 := (f.1 _ _ kv3).2.trans hl
  have kv1 := (f.1 _ _ kv1).1
  have kv2 := (f.1 _ _ kv2).1
  have kv3 := (f.1 _ _ kv3).1
  have wo := w
  refine s_X12_jam w bd v2 kv2  (fun r2 Z I L w bd f cp => ?_)
  have ht : (I v1 4).toInt + (T : Int) = 6 := by rw [f.2.2.1 v1 11 4 kv1 (by decide) (by decide)]; exact ht
  have ha0 := ARr_same (f.2.2.2 uF 8 2 uQ kuF hak.1 (by rw [hak.2.1.2]; rfl) rfl (by decide)) (f.2.2.2 v2 12 3 vQ kv2 hak.2.2.1 (by rw [hak.2.2.2.1.2]; rfl) rfl (by decide)) (congrArg Int32.toInt (f.2.2.1 v2 12 0 kv2 (by decide) (by decide))) ha0
  have hwi := WI_fr f kuF kv2 (by decide) hwi
  have hlb := LB_fr f wo kuF kv2 (by decide) hlb
  have hfb := FB_fr f kuF kv2 (by decide) hfb
  have hpb := PB_fr f kv1 kuA kv2 (by decide) hpb
  have hsh : (I v2 39).toInt = -1 := by rw [f.2.2.1 v2 12 39 kv2 (by decide) (by decide)]; exact hsh
  have hak := AK_fr f wo kuF kv2 kuS luS hru62 ku62 (by decide) hak
  have hm0 := MAI_fr wo hpc.2.2.2.1 hpc.2.2.2.2.1 hm1 f (by decide) (by decide) hm0
  have hp0 := PR_same (EQC_fr f hpc (by decide)) (EQM_fr f kv2 hpm (by decide)) hp0
  have hk2 : KP2 Z I uS u62 (I v2 0).toInt.toNat := by rw [(f.2.2.1 v2 12 0 kv2 (by decide) (by decide))]; exact KP2_fr f wo.1 kuS luS kv2 hru62 ku62 (by decide) (by decide) (by decide) hk2
  have hs0 := ARr_same (f.2.2.2 uF 8 1 uX kuF hruX (by rw [kuX.2]; rfl) rfl (by decide)) (f.2.2.2 v2 12 2 uY kv2 hruY (by rw [kuY.2]; rfl) rfl (by decide)) (congrArg Int32.toInt (f.2.2.1 v2 12 0 kv2 (by decide) (by decide))) hs0
  have hc0 := KC_fr f wo.1 kuS luS kv2 hru62 ku62 (by decide) (by decide) (by decide) (congrArg Int32.toInt (f.2.2.1 v2 12 0 kv2 (by decide) (by decide))) hc0
  have hs9 := ARr_same (f.2.2.2 uF 8 0 uR kuF hruR (by rw [kuR.2]; rfl) rfl (by decide)) (f.2.2.2 v2 12 1 vR kv2 hrvR (by rw [kvR.2]; rfl) rfl (by decide)) (congrArg Int32.toInt (f.2.2.1 v2 12 0 kv2 (by decide) (by decide))) hs9
  have hv0 := PRr_fr f kv1 kuA (eMf f kv2 hruV kuV rfl (by decide)) (by decide) (by decide) hv0
  have hk := HK_fr f kuS kv2 hruK kuK hruC kuC (by decide) (by decide) (by decide) (by decide) hk
  have hx := TBr_fr f kuT hruB kuB kv2 hruM kuM (by decide) (by decide) (by decide) (by decide) hx
  have ea406 := congrArg Int32.toInt (f.2.2.1 uF 8 9 kuF (by decide) (by decide))
  have ea407 := congrArg Int32.toInt (f.2.2.1 v2 12 0 kv2 (by decide) (by decide))
  have ea408 := congrArg Int32.toInt (f.2.2.1 v2 12 7 kv2 (by decide) (by decide))
  have ea409 := congrArg Int32.toInt (f.2.2.1 v1 11 4 kv1 (by decide) (by decide))
  have ea410 := congrArg Int32.toInt (f.2.2.1 v2 12 8 kv2 (by decide) (by decide))
  have hm1 := (f.2.1 uP 4 1 hpc.2.2.2.1 (by decide) (by decide)).trans hm1
  have hpc := PCs_x f.1 (fun a c j ka hc => f.2.1 a c j ka (by omega) (by omega)) kv1 hpc
  have hpm := PMs_x f.1 (fun j hj => f.2.1 v2 12 j kv2 (by omega) (by omega)) hpm
  have hru62 := (f.2.1 v2 12 62 kv2 (by decide) (by decide)).trans hru62
  have ku62 := (f.1 _ _ ku62).1
  have hruX := (f.2.1 uF 8 1 kuF (by decide) (by decide)).trans hruX
  have kuX := (f.1 _ _ kuX).1
  have hruY := (f.2.1 v2 12 2 kv2 (by decide) (by decide)).trans hruY
  have kuY := (f.1 _ _ kuY).1
  have hruR := (f.2.1 uF 8 0 kuF (by decide) (by decide)).trans hruR
  have kuR := (f.1 _ _ kuR).1
  have hrvR := (f.2.1 v2 12 1 kv2 (by decide) (by decide)).trans hrvR
  have kvR := (f.1 _ _ kvR).1
  have hruA := (f.2.1 v1 11 3 kv1 (by decide) (by decide)).trans hruA
  have kuA := (f.1 _ _ kuA).1
  have hruV := (f.2.1 v2 12 13 kv2 (by decide) (by decide)).trans hruV
  have kuV := (f.1 _ _ kuV).1
  have hruS := (f.2.1 v1 11 8 kv1 (by decide) (by decide)).trans hruS
  have luS := (f.1 _ _ kuS).2.trans luS
  have kuS := (f.1 _ _ kuS).1
  have hruK := (f.2.1 v2 12 63 kv2 (by decide) (by decide)).trans hruK
  have kuK := (f.1 _ _ kuK).1
  have hruC := (f.2.1 v2 12 64 kv2 (by decide) (by decide)).trans hruC
  have kuC := (f.1 _ _ kuC).1
  have hruB := (f.2.1 uT 10 0 kuT (by decide) (by decide)).trans hruB
  have hruM := (f.2.1 v2 12 18 kv2 (by decide) (by decide)).trans hruM
  have kuB := (f.1 _ _ kuB).1
  have kuM := (f.1 _ _ kuM).1
  have hruT := (f.2.1 v1 11 0 kv1 (by decide) (by decide)).trans hruT
  have kuT := (f.1 _ _ kuT).1
  have hruF := (f.2.1 v1 11 2 kv1 (by decide) (by decide)).trans hruF
  have kuF := (f.1 _ _ kuF).1
  have hl : jlen Z v3 = 1 := (f.1 _ _ kv3).2.trans hl
  have kv1 := (f.1 _ _ kv1).1
  have kv2 := (f.1 _ _ kv2).1
  have kv3 := (f.1 _ _ kv3).1
  unfold f_L_law_b1760
  intro x ex
  have tx : x.toInt = v4.toInt + 6 := by rw [ex]; exact i_add rfl (show (6 : Int32).toInt = 6 from rfl) (by omega) (by omega)
  exact hK _ _ _ x ex (LInv_mk (Z := Z) (I := I) T uT uB uM uF uS uK uC uA uV uX uY uR vR uP x0 x2 u5 u53 u54 u62 x1 uQ vQ uW vW t30 t29 u5c t6 t9 t10 t11 t12 ⟨w, bd, kv1, kv2, kv3, hl, ht, hruT, kuT, hruB, kuB, hruM⟩ ⟨kuM, hx, hruF, kuF, (by omega), (by omega), (by omega), hruS, kuS, luS, hruK, kuK⟩ ⟨hruC, kuC, hk, hruA, kuA, hruV, kuV, hv0, hruX, kuX, hruY, kuY⟩ ⟨hruR, kuR, hrvR, kvR, hs0, hc0, hs9, hpc, hpm, hru62, ku62, hp0⟩ ⟨hk2, hm1, hm0, hak, ha0, hwi, hlb, hfb, hpb, hsh⟩)
set_option maxHeartbeats 4000000 in
set_option maxRecDepth 100000 in
theorem k_b1657 {xs : Nat → Int32} {Ls : Nat} {B : Nat × Nat} {K : Nat → Nat → Nat → Int32 → jZ → jI → jL → Prop} {v1 v2 v3 : Nat} {v4 : Int32} {Z : jZ} {I : jI} {L : jL} {T uT uB uM uF uS uK uC uA uV uX uY uR vR uP x0 x2 u5 u53 u54 u62 x1 uQ vQ uW vW t30 t29 u5c t6 t9 t10 t11 t12 : Nat} (g0 : LG0 B v1 v2 v3 T uT uB uM Z I) (g1 : LG1 v1 v2 v4 uT uB uM uF uS uK Z I) (g2 : LG2 v1 v2 uF uS uK uC uA uV uX uY Z I) (g3 : LG3 v1 v2 uF uS uX uY uR vR uP x0 x2 u5 u53 u54 u62 Z I) (g4 : LG4 v1 v2 uF uS uA uP x0 u62 x1 uQ vQ uW vW t30 t29 u5c t6 t9 t10 t11 t12 Z I) (hv : 0 ≤ v4.toInt ∧ v4.toInt + 6 ≤ (Ls : Int) ∧ (Ls : Int) ≤ 3072) (hK : ∀ (Z : jZ) (I : jI) (L : jL) (x : Int32), x = v4 + 6 → LInv B v1 v2 v3 x Z I → K v1 v2 v3 x Z I L) : f_L_law_b1657 xs Ls B K v1 v2 v3 v4 Z I L := by
  obtain ⟨w, bd, kv1, kv2, kv3, hl, ht, hruT, kuT, hruB, kuB, hruM⟩ := g0
  obtain ⟨kuM, hx, hruF, kuF, hx1, hx2, hx3, hruS, kuS, luS, hruK, kuK⟩ := g1
  obtain ⟨hruC, kuC, hk, hruA, kuA, hruV, kuV, hv0, hruX, kuX, hruY, kuY⟩ := g2
  obtain ⟨hruR, kuR, hrvR, kvR, hs0, hc0, hs9, hpc, hpm, hru62, ku62, hp0⟩ := g3
  obtain ⟨hk2, hm1, hm0, hak, ha0, hwi, hlb, hfb, hpb, hsh⟩ := g4
  unfold f_L_law_b1657
  refine ⟨vi_of (i_add rfl (show (1 : Int32).toInt = 1 from rfl) (by omega) (by omega)) (by omega) (by omega), ?_⟩
  have wo := w
  have n24 : 0 ≤ (I v2 0).toInt ∧ (I v2 0).toInt ≤ 24 := w.fld 12 0 kv2 (by decide)
  have h48 : (I uP 4).toInt ≤ 8 := (show rg 0 8 (I uP 4) from w.fld 4 4 hpc.2.2.2.1 (by decide)).2
  refine s14_X11_keep w v1 _ kv1 uS hruS  (fun r1 I L w f p1 q1 => ?_)
  have ht : (I v1 4).toInt + (T : Int) = 6 := by rw [f.2.2.1 v1 11 4 kv1 (by decide) (by decide)]; exact ht
  have ha9 := ha0
  have hkc9 := hak.2.2.2.2
  have eA1 : I vQ = _ := (f.2.2.2 v2 12 3 vQ kv2 hak.2.2.1 (by rw [hak.2.2.2.1.2]; rfl) rfl (by decide))
  have e01 := (f.2.2.1 v2 12 0 kv2 (by decide) (by decide))
  have ha0 := ARr_same (f.2.2.2 uF 8 2 uQ kuF hak.1 (by rw [hak.2.1.2]; rfl) rfl (by decide)) (f.2.2.2 v2 12 3 vQ kv2 hak.2.2.1 (by rw [hak.2.2.2.1.2]; rfl) rfl (by decide)) (congrArg Int32.toInt (f.2.2.1 v2 12 0 kv2 (by decide) (by decide))) ha0
  have hwi := WI_fr f kuF kv2 (by decide) hwi
  have hlb := LB_fr f wo kuF kv2 (by decide) hlb
  have hfb := FB_fr f kuF kv2 (by decide) hfb
  have hpb := PB_fr f kv1 kuA kv2 (by decide) hpb
  have hsh : (I v2 39).toInt = -1 := by rw [f.2.2.1 v2 12 39 kv2 (by decide) (by decide)]; exact hsh
  have hm0 := MAI_fr wo hpc.2.2.2.1 hpc.2.2.2.2.1 hm1 f (by decide) (by decide) hm0
  have hpA := hp0
  have hkA := hk2
  have wk := wo
  have fk := f
  have e01 := (f.2.2.1 v2 12 0 kv2 (by decide) (by decide))
  have qm := (EQM_fr f kv2 hpm (by decide))
  have hp0 := PR_same (EQC_fr f hpc (by decide)) (EQM_fr f kv2 hpm (by decide)) hp0
  have hsA := hs0
  have hcA := hc0
  have wk := wo
  have fk := f
  have e01 := (f.2.2.1 v2 12 0 kv2 (by decide) (by decide))
  have eY1 : I uY = _ := (f.2.2.2 v2 12 2 uY kv2 hruY (by rw [kuY.2]; rfl) rfl (by decide))
  have hsR := hs9
  have eR1 : I vR = _ := (f.2.2.2 v2 12 1 vR kv2 hrvR (by rw [kvR.2]; rfl) rfl (by decide))
  have hs0 := ARr_same (f.2.2.2 uF 8 1 uX kuF hruX (by rw [kuX.2]; rfl) rfl (by decide)) (f.2.2.2 v2 12 2 uY kv2 hruY (by rw [kuY.2]; rfl) rfl (by decide)) (congrArg Int32.toInt (f.2.2.1 v2 12 0 kv2 (by decide) (by decide))) hs0
  have hs9 := ARr_same (f.2.2.2 uF 8 0 uR kuF hruR (by rw [kuR.2]; rfl) rfl (by decide)) (f.2.2.2 v2 12 1 vR kv2 hrvR (by rw [kvR.2]; rfl) rfl (by decide)) (congrArg Int32.toInt (f.2.2.1 v2 12 0 kv2 (by decide) (by decide))) hs9
  have hv0 := PRr_fr f kv1 kuA (eMf f kv2 hruV kuV rfl (by decide)) (by decide) (by decide) hv0
  have fk := f
  have hx := TBr_fr f kuT hruB kuB kv2 hruM kuM (by decide) (by decide) (by decide) (by decide) hx
  have ea411 := congrArg Int32.toInt (f.2.2.1 uF 8 9 kuF (by decide) (by decide))
  have ea412 := congrArg Int32.toInt (f.2.2.1 v2 12 0 kv2 (by decide) (by decide))
  have ea413 := congrArg Int32.toInt (f.2.2.1 v2 12 7 kv2 (by decide) (by decide))
  have ea414 := congrArg Int32.toInt (f.2.2.1 v1 11 4 kv1 (by decide) (by decide))
  have ea415 := congrArg Int32.toInt (f.2.2.1 v2 12 8 kv2 (by decide) (by decide))
  refine ⟨vi_of (i_add rfl (show (1 : Int32).toInt = 1 from rfl) (by omega) (by omega)) (by omega) (by omega), ?_⟩
  have wo := w
  refine s14_X12_keep w v2 _ kv2 uK hruK uC hruC  (fun r2 I L w f p2 q2 => ?_)
  have ht : (I v1 4).toInt + (T : Int) = 6 := by rw [f.2.2.1 v1 11 4 kv1 (by decide) (by decide)]; exact ht
  have ha0 := ARr_same (f.2.2.2 uF 8 2 uQ kuF hak.1 (by rw [hak.2.1.2]; rfl) rfl (by decide)) (f.2.2.2 v2 12 3 vQ kv2 hak.2.2.1 (by rw [hak.2.2.2.1.2]; rfl) rfl (by decide)) (congrArg Int32.toInt (f.2.2.1 v2 12 0 kv2 (by decide) (by decide))) ha0
  have hwi := WI_fr f kuF kv2 (by decide) hwi
  have hlb := LB_fr f wo kuF kv2 (by decide) hlb
  have hfb := FB_fr f kuF kv2 (by decide) hfb
  have hpb := PB_fr f kv1 kuA kv2 (by decide) hpb
  have hsh : (I v2 39).toInt = -1 := by rw [f.2.2.1 v2 12 39 kv2 (by decide) (by decide)]; exact hsh
  have hak : AK Z I uF v2 uS u62 uQ vQ := ⟨hak.1, hak.2.1, hak.2.2.1, hak.2.2.2.1, KCa_keep wk fk f kv1 kuS luS kv2 hru62 ku62 hruF kuF hak.1 hak.2.2.1 hak.2.2.2.1 n24.2 ((congrArg Int32.toInt (f.2.2.1 v2 12 0 kv2 (by decide) (by decide))).trans (congrArg Int32.toInt e01)) p1 q1 p2 q2 ha9 hak.2.2.2.2⟩
  have hm0 := MAI_fr wo hpc.2.2.2.1 hpc.2.2.2.2.1 hm1 f (by decide) (by decide) hm0
  have hk2 : KP2 Z I uS u62 (I v2 0).toInt.toNat := by rw [(f.2.2.1 v2 12 0 kv2 (by decide) (by decide)), e01]; exact KP2_keep wk fk f kv1 kuS luS kv2 hru62 ku62 hpc hpm (by omega) p1 q1 p2 q2 hpA.1 hkA
  have hp0 := PR_same (EQC_fr f hpc (by decide)) (EQM_fr f kv2 hpm (by decide)) hp0
  have hc0 := KC_keep wk fk f kv1 kuS luS kv2 hru62 ku62 hruF kuF hruX hruY kuY n24.2 ((congrArg Int32.toInt (f.2.2.1 v2 12 0 kv2 (by decide) (by decide))).trans (congrArg Int32.toInt e01)) p1 q1 p2 q2 hsA hcA
  have hs0 := ARr_same (f.2.2.2 uF 8 1 uX kuF hruX (by rw [kuX.2]; rfl) rfl (by decide)) (f.2.2.2 v2 12 2 uY kv2 hruY (by rw [kuY.2]; rfl) rfl (by decide)) (congrArg Int32.toInt (f.2.2.1 v2 12 0 kv2 (by decide) (by decide))) hs0
  have hs9 := ARr_same (f.2.2.2 uF 8 0 uR kuF hruR (by rw [kuR.2]; rfl) rfl (by decide)) (f.2.2.2 v2 12 1 vR kv2 hrvR (by rw [kvR.2]; rfl) rfl (by decide)) (congrArg Int32.toInt (f.2.2.1 v2 12 0 kv2 (by decide) (by decide))) hs9
  have hv0 := PRr_fr f kv1 kuA (eMf f kv2 hruV kuV rfl (by decide)) (by decide) (by decide) hv0
  have hk := HK_keep hk fk f kv2 hruK kuK hruC kuC p1 p2
  have hx := TBr_fr f kuT hruB kuB kv2 hruM kuM (by decide) (by decide) (by decide) (by decide) hx
  have ea416 := congrArg Int32.toInt (f.2.2.1 uF 8 9 kuF (by decide) (by decide))
  have ea417 := congrArg Int32.toInt (f.2.2.1 v2 12 0 kv2 (by decide) (by decide))
  have ea418 := congrArg Int32.toInt (f.2.2.1 v2 12 7 kv2 (by decide) (by decide))
  have ea419 := congrArg Int32.toInt (f.2.2.1 v1 11 4 kv1 (by decide) (by decide))
  have ea420 := congrArg Int32.toInt (f.2.2.1 v2 12 8 kv2 (by decide) (by decide))
  unfold f_L_law_b1760
  intro x ex
  have tx : x.toInt = v4.toInt + 6 := by rw [ex]; exact i_add rfl (show (6 : Int32).toInt = 6 from rfl) (by omega) (by omega)
  exact hK _ _ _ x ex (LInv_mk (Z := Z) (I := I) T uT uB uM uF uS uK uC uA uV uX uY uR vR uP x0 x2 u5 u53 u54 u62 x1 uQ vQ uW vW t30 t29 u5c t6 t9 t10 t11 t12 ⟨w, bd, kv1, kv2, kv3, hl, ht, hruT, kuT, hruB, kuB, hruM⟩ ⟨kuM, hx, hruF, kuF, (by omega), (by omega), (by omega), hruS, kuS, luS, hruK, kuK⟩ ⟨hruC, kuC, hk, hruA, kuA, hruV, kuV, hv0, hruX, kuX, hruY, kuY⟩ ⟨hruR, kuR, hrvR, kvR, hs0, hc0, hs9, hpc, hpm, hru62, ku62, hp0⟩ ⟨hk2, hm1, hm0, hak, ha0, hwi, hlb, hfb, hpb, hsh⟩)
set_option maxHeartbeats 4000000 in
set_option maxRecDepth 100000 in
theorem k_b1682 {xs : Nat → Int32} {Ls : Nat} {B : Nat × Nat} {K : Nat → Nat → Nat → Int32 → jZ → jI → jL → Prop} {v1 v2 v3 : Nat} {v4 : Int32} {Z : jZ} {I : jI} {L : jL} {T uT uB uM uF uS uK uC uA uV uX uY uR vR uP x0 x2 u5 u53 u54 u62 x1 uQ vQ uW vW t30 t29 u5c t6 t9 t10 t11 t12 : Nat} (g0 : LG0 B v1 v2 v3 T uT uB uM Z I) (g1 : LG1 v1 v2 v4 uT uB uM uF uS uK Z I) (g2 : LG2 v1 v2 uF uS uK uC uA uV uX uY Z I) (g3 : LG3 v1 v2 uF uS uX uY uR vR uP x0 x2 u5 u53 u54 u62 Z I) (g4 : LG4 v1 v2 uF uS uA uP x0 u62 x1 uQ vQ uW vW t30 t29 u5c t6 t9 t10 t11 t12 Z I) (hv : 0 ≤ v4.toInt ∧ v4.toInt + 6 ≤ (Ls : Int) ∧ (Ls : Int) ≤ 3072) (hK : ∀ (Z : jZ) (I : jI) (L : jL) (x : Int32), x = v4 + 6 → LInv B v1 v2 v3 x Z I → K v1 v2 v3 x Z I L) : f_L_law_b1682 xs Ls B K v1 v2 v3 v4 Z I L := by
  obtain ⟨w, bd, kv1, kv2, kv3, hl, ht, hruT, kuT, hruB, kuB, hruM⟩ := g0
  obtain ⟨kuM, hx, hruF, kuF, hx1, hx2, hx3, hruS, kuS, luS, hruK, kuK⟩ := g1
  obtain ⟨hruC, kuC, hk, hruA, kuA, hruV, kuV, hv0, hruX, kuX, hruY, kuY⟩ := g2
  obtain ⟨hruR, kuR, hrvR, kvR, hs0, hc0, hs9, hpc, hpm, hru62, ku62, hp0⟩ := g3
  obtain ⟨hk2, hm1, hm0, hak, ha0, hwi, hlb, hfb, hpb, hsh⟩ := g4
  unfold f_L_law_b1682
  refine ⟨vi_of (i_add rfl (show (1 : Int32).toInt = 1 from rfl) (by omega) (by omega)) (by omega) (by omega), ?_⟩
  have wo := w
  have n24 : 0 ≤ (I v2 0).toInt ∧ (I v2 0).toInt ≤ 24 := w.fld 12 0 kv2 (by decide)
  have h48 : (I uP 4).toInt ≤ 8 := (show rg 0 8 (I uP 4) from w.fld 4 4 hpc.2.2.2.1 (by decide)).2
  refine mj_X11_again (s18_X11_again w v1 _ kv1 uF uP x0 x1 ⟨hpc.1, hpc.2.1, hpc.2.2.1, hpc.2.2.2.1, hpc.2.2.2.2.1, hm1⟩ hm0 (Q := fun _ I' _ => MAI I' x0 x1) (fun r I' L' h => h)) ?_
  refine s14_X11_again w v1 _ kv1 uS hruS  (fun r1 I L w f p1 q1 hm0 => ?_)
  have ht : (I v1 4).toInt + (T : Int) = 6 := by rw [f.2.2.1 v1 11 4 kv1 (by decide) (by decide)]; exact ht
  have ha9 := ha0
  have hkc9 := hak.2.2.2.2
  have eA1 : I vQ = _ := (f.2.2.2 v2 12 3 vQ kv2 hak.2.2.1 (by rw [hak.2.2.2.1.2]; rfl) rfl (by decide))
  have e01 := (f.2.2.1 v2 12 0 kv2 (by decide) (by decide))
  have hwi := WI_fr f kuF kv2 (by decide) hwi
  have hlb := LB_fr f wo kuF kv2 (by decide) hlb
  have hfb := FB_fr f kuF kv2 (by decide) hfb
  have hpb := PB_fr f kv1 kuA kv2 (by decide) hpb
  have hsh : (I v2 39).toInt = -1 := by rw [f.2.2.1 v2 12 39 kv2 (by decide) (by decide)]; exact hsh
  have hak := AK_fr f wo kuF kv2 kuS luS hru62 ku62 (by decide) hak
  have hpA := hp0
  have hkA := hk2
  have wk := wo
  have fk := f
  have e01 := (f.2.2.1 v2 12 0 kv2 (by decide) (by decide))
  have qm := (EQM_fr f kv2 hpm (by decide))
  have p1o := p1
  have hk2 : KP2 Z I uS u62 (I v2 0).toInt.toNat := by rw [(f.2.2.1 v2 12 0 kv2 (by decide) (by decide))]; exact KP2_fr f wo.1 kuS luS kv2 hru62 ku62 (by decide) (by decide) (by decide) hk2
  have hsA := hs0
  have hcA := hc0
  have wk := wo
  have fk := f
  have e01 := (f.2.2.1 v2 12 0 kv2 (by decide) (by decide))
  have eY1 : I uY = _ := (f.2.2.2 v2 12 2 uY kv2 hruY (by rw [kuY.2]; rfl) rfl (by decide))
  have hsR := hs9
  have eR1 : I vR = _ := (f.2.2.2 v2 12 1 vR kv2 hrvR (by rw [kvR.2]; rfl) rfl (by decide))
  have p1o := p1
  have hc0 := KC_fr f wo.1 kuS luS kv2 hru62 ku62 (by decide) (by decide) (by decide) (congrArg Int32.toInt (f.2.2.1 v2 12 0 kv2 (by decide) (by decide))) hc0
  have hs9 := ARr_same (f.2.2.2 uF 8 0 uR kuF hruR (by rw [kuR.2]; rfl) rfl (by decide)) (f.2.2.2 v2 12 1 vR kv2 hrvR (by rw [kvR.2]; rfl) rfl (by decide)) (congrArg Int32.toInt (f.2.2.1 v2 12 0 kv2 (by decide) (by decide))) hs9
  have hv0 := PRr_fr f kv1 kuA (eMf f kv2 hruV kuV rfl (by decide)) (by decide) (by decide) hv0
  have p1 := HK_again hk f w.1 kuS luS kv2 hruK kuK hruC kuC (by decide) (by decide) (by decide) p1
  have hk := HK_fr f kuS kv2 hruK kuK hruC kuC (by decide) (by decide) (by decide) (by decide) hk
  have hx := TBr_fr f kuT hruB kuB kv2 hruM kuM (by decide) (by decide) (by decide) (by decide) hx
  have ea421 := congrArg Int32.toInt (f.2.2.1 uF 8 9 kuF (by decide) (by decide))
  have ea422 := congrArg Int32.toInt (f.2.2.1 v2 12 0 kv2 (by decide) (by decide))
  have ea423 := congrArg Int32.toInt (f.2.2.1 v2 12 7 kv2 (by decide) (by decide))
  have ea424 := congrArg Int32.toInt (f.2.2.1 v1 11 4 kv1 (by decide) (by decide))
  have ea425 := congrArg Int32.toInt (f.2.2.1 v2 12 8 kv2 (by decide) (by decide))
  refine ⟨vi_of (i_add rfl (show (1 : Int32).toInt = 1 from rfl) (by omega) (by omega)) (by omega) (by omega), ?_⟩
  have wo := w
  refine s14_X12_again w v2 _ kv2 uK hruK uC hruC  (fun r2 I L w f p2 q2 => ?_)
  have ht : (I v1 4).toInt + (T : Int) = 6 := by rw [f.2.2.1 v1 11 4 kv1 (by decide) (by decide)]; exact ht
  have ha0 := ak_again (uK := uK) (uC := uC) wk fk f kv1 kuS luS kv2 hru62 ku62 hruF kuF hak.1 hak.2.1 hak.2.2.1 hak.2.2.2.1 n24.2 ((congrArg Int32.toInt (f.2.2.1 v2 12 0 kv2 (by decide) (by decide))).trans (congrArg Int32.toInt e01)) (YN_eq p1 p2) p1o q1 q2 ha9 hkc9
  have hwi := WI_fr f kuF kv2 (by decide) hwi
  have hlb := LB_fr f wo kuF kv2 (by decide) hlb
  have hfb := FB_fr f kuF kv2 (by decide) hfb
  have hpb := PB_fr f kv1 kuA kv2 (by decide) hpb
  have hsh : (I v2 39).toInt = -1 := by rw [f.2.2.1 v2 12 39 kv2 (by decide) (by decide)]; exact hsh
  have hak := AK_fr f wo kuF kv2 kuS luS hru62 ku62 (by decide) hak
  have hm0 := MAI_fr wo hpc.2.2.2.1 hpc.2.2.2.2.1 hm1 f (by decide) (by decide) hm0
  have er9 : r1.toInt = r2.toInt := YN_eq p1 p2
  have hp0 := PR_again wk fk f kv1 kuS luS kv2 hru62 ku62 hpc hpm (by omega) (by omega) er9 p1o q1 q2 hpA hkA
  have hk2 : KP2 Z I uS u62 (I v2 0).toInt.toNat := by rw [(f.2.2.1 v2 12 0 kv2 (by decide) (by decide))]; exact KP2_fr f wo.1 kuS luS kv2 hru62 ku62 (by decide) (by decide) (by decide) hk2
  have er9 : r1.toInt = r2.toInt := YN_eq p1 p2
  have hs0 := st_again (uK := uK) (uC := uC) wk fk f kv1 kuS luS kv2 hru62 ku62 hruF kuF hruX kuX hruY kuY n24.2 ((congrArg Int32.toInt (f.2.2.1 v2 12 0 kv2 (by decide) (by decide))).trans (congrArg Int32.toInt e01)) er9 p1o q1 q2 hsA hcA
  have hc0 := KC_fr f wo.1 kuS luS kv2 hru62 ku62 (by decide) (by decide) (by decide) (congrArg Int32.toInt (f.2.2.1 v2 12 0 kv2 (by decide) (by decide))) hc0
  have hs9 := ARr_same (f.2.2.2 uF 8 0 uR kuF hruR (by rw [kuR.2]; rfl) rfl (by decide)) (f.2.2.2 v2 12 1 vR kv2 hrvR (by rw [kvR.2]; rfl) rfl (by decide)) (congrArg Int32.toInt (f.2.2.1 v2 12 0 kv2 (by decide) (by decide))) hs9
  have hv0 := PRr_fr f kv1 kuA (eMf f kv2 hruV kuV rfl (by decide)) (by decide) (by decide) hv0
  have hk := HK_fr f kuS kv2 hruK kuK hruC kuC (by decide) (by decide) (by decide) (by decide) hk
  have hx := TBr_fr f kuT hruB kuB kv2 hruM kuM (by decide) (by decide) (by decide) (by decide) hx
  have ea426 := congrArg Int32.toInt (f.2.2.1 uF 8 9 kuF (by decide) (by decide))
  have ea427 := congrArg Int32.toInt (f.2.2.1 v2 12 0 kv2 (by decide) (by decide))
  have ea428 := congrArg Int32.toInt (f.2.2.1 v2 12 7 kv2 (by decide) (by decide))
  have ea429 := congrArg Int32.toInt (f.2.2.1 v1 11 4 kv1 (by decide) (by decide))
  have ea430 := congrArg Int32.toInt (f.2.2.1 v2 12 8 kv2 (by decide) (by decide))
  unfold f_L_law_b1760
  intro x ex
  have tx : x.toInt = v4.toInt + 6 := by rw [ex]; exact i_add rfl (show (6 : Int32).toInt = 6 from rfl) (by omega) (by omega)
  exact hK _ _ _ x ex (LInv_mk (Z := Z) (I := I) T uT uB uM uF uS uK uC uA uV uX uY uR vR uP x0 x2 u5 u53 u54 u62 x1 uQ vQ uW vW t30 t29 u5c t6 t9 t10 t11 t12 ⟨w, bd, kv1, kv2, kv3, hl, ht, hruT, kuT, hruB, kuB, hruM⟩ ⟨kuM, hx, hruF, kuF, (by omega), (by omega), (by omega), hruS, kuS, luS, hruK, kuK⟩ ⟨hruC, kuC, hk, hruA, kuA, hruV, kuV, hv0, hruX, kuX, hruY, kuY⟩ ⟨hruR, kuR, hrvR, kvR, hs0, hc0, hs9, hpc, hpm, hru62, ku62, hp0⟩ ⟨hk2, hm1, hm0, hak, ha0, hwi, hlb, hfb, hpb, hsh⟩)
set_option maxHeartbeats 4000000 in
set_option maxRecDepth 100000 in
theorem k_b1707 {xs : Nat → Int32} {Ls : Nat} {B : Nat × Nat} {K : Nat → Nat → Nat → Int32 → jZ → jI → jL → Prop} {v1 v2 v3 : Nat} {v4 : Int32} {Z : jZ} {I : jI} {L : jL} {T uT uB uM uF uS uK uC uA uV uX uY uR vR uP x0 x2 u5 u53 u54 u62 x1 uQ vQ uW vW t30 t29 u5c t6 t9 t10 t11 t12 : Nat} (g0 : LG0 B v1 v2 v3 T uT uB uM Z I) (g1 : LG1 v1 v2 v4 uT uB uM uF uS uK Z I) (g2 : LG2 v1 v2 uF uS uK uC uA uV uX uY Z I) (g3 : LG3 v1 v2 uF uS uX uY uR vR uP x0 x2 u5 u53 u54 u62 Z I) (g4 : LG4 v1 v2 uF uS uA uP x0 u62 x1 uQ vQ uW vW t30 t29 u5c t6 t9 t10 t11 t12 Z I) (hv : 0 ≤ v4.toInt ∧ v4.toInt + 6 ≤ (Ls : Int) ∧ (Ls : Int) ≤ 3072) (hK : ∀ (Z : jZ) (I : jI) (L : jL) (x : Int32), x = v4 + 6 → LInv B v1 v2 v3 x Z I → K v1 v2 v3 x Z I L) : f_L_law_b1707 xs Ls B K v1 v2 v3 v4 Z I L := by
  obtain ⟨w, bd, kv1, kv2, kv3, hl, ht, hruT, kuT, hruB, kuB, hruM⟩ := g0
  obtain ⟨kuM, hx, hruF, kuF, hx1, hx2, hx3, hruS, kuS, luS, hruK, kuK⟩ := g1
  obtain ⟨hruC, kuC, hk, hruA, kuA, hruV, kuV, hv0, hruX, kuX, hruY, kuY⟩ := g2
  obtain ⟨hruR, kuR, hrvR, kvR, hs0, hc0, hs9, hpc, hpm, hru62, ku62, hp0⟩ := g3
  obtain ⟨hk2, hm1, hm0, hak, ha0, hwi, hlb, hfb, hpb, hsh⟩ := g4
  unfold f_L_law_b1707
  refine ⟨vi_of (i_add rfl (show (1 : Int32).toInt = 1 from rfl) (by omega) (by omega)) (by omega) (by omega), ?_⟩
  have wo := w
  refine s_X11_count w v1 _ kv1  (fun r1  => ?_)
  refine ⟨vi_of (i_add rfl (show (1 : Int32).toInt = 1 from rfl) (by omega) (by omega)) (by omega) (by omega), ?_⟩
  have wo := w
  refine s_X12_count w v2 _ kv2  (fun r2 I L w f => ?_)
  have ht : (I v1 4).toInt + (T : Int) = 6 := by rw [f.2.2.1 v1 11 4 kv1 (by decide) (by decide)]; exact ht
  have ha0 := ARr_same (f.2.2.2 uF 8 2 uQ kuF hak.1 (by rw [hak.2.1.2]; rfl) rfl (by decide)) (f.2.2.2 v2 12 3 vQ kv2 hak.2.2.1 (by rw [hak.2.2.2.1.2]; rfl) rfl (by decide)) (congrArg Int32.toInt (f.2.2.1 v2 12 0 kv2 (by decide) (by decide))) ha0
  have hwi := WI_fr f kuF kv2 (by decide) hwi
  have hlb := LB_fr f wo kuF kv2 (by decide) hlb
  have hfb := FB_fr f kuF kv2 (by decide) hfb
  have hpb := PB_fr f kv1 kuA kv2 (by decide) hpb
  have hsh : (I v2 39).toInt = -1 := by rw [f.2.2.1 v2 12 39 kv2 (by decide) (by decide)]; exact hsh
  have hak := AK_fr f wo kuF kv2 kuS luS hru62 ku62 (by decide) hak
  have hm0 := MAI_fr wo hpc.2.2.2.1 hpc.2.2.2.2.1 hm1 f (by decide) (by decide) hm0
  have hp0 := PR_same (EQC_fr f hpc (by decide)) (EQM_fr f kv2 hpm (by decide)) hp0
  have hk2 : KP2 Z I uS u62 (I v2 0).toInt.toNat := by rw [(f.2.2.1 v2 12 0 kv2 (by decide) (by decide))]; exact KP2_fr f wo.1 kuS luS kv2 hru62 ku62 (by decide) (by decide) (by decide) hk2
  have hs0 := ARr_same (f.2.2.2 uF 8 1 uX kuF hruX (by rw [kuX.2]; rfl) rfl (by decide)) (f.2.2.2 v2 12 2 uY kv2 hruY (by rw [kuY.2]; rfl) rfl (by decide)) (congrArg Int32.toInt (f.2.2.1 v2 12 0 kv2 (by decide) (by decide))) hs0
  have hc0 := KC_fr f wo.1 kuS luS kv2 hru62 ku62 (by decide) (by decide) (by decide) (congrArg Int32.toInt (f.2.2.1 v2 12 0 kv2 (by decide) (by decide))) hc0
  have hs9 := ARr_same (f.2.2.2 uF 8 0 uR kuF hruR (by rw [kuR.2]; rfl) rfl (by decide)) (f.2.2.2 v2 12 1 vR kv2 hrvR (by rw [kvR.2]; rfl) rfl (by decide)) (congrArg Int32.toInt (f.2.2.1 v2 12 0 kv2 (by decide) (by decide))) hs9
  have hv0 := PRr_fr f kv1 kuA (eMf f kv2 hruV kuV rfl (by decide)) (by decide) (by decide) hv0
  have hk := HK_fr f kuS kv2 hruK kuK hruC kuC (by decide) (by decide) (by decide) (by decide) hk
  have hx := TBr_fr f kuT hruB kuB kv2 hruM kuM (by decide) (by decide) (by decide) (by decide) hx
  have ea431 := congrArg Int32.toInt (f.2.2.1 uF 8 9 kuF (by decide) (by decide))
  have ea432 := congrArg Int32.toInt (f.2.2.1 v2 12 0 kv2 (by decide) (by decide))
  have ea433 := congrArg Int32.toInt (f.2.2.1 v2 12 7 kv2 (by decide) (by decide))
  have ea434 := congrArg Int32.toInt (f.2.2.1 v1 11 4 kv1 (by decide) (by decide))
  have ea435 := congrArg Int32.toInt (f.2.2.1 v2 12 8 kv2 (by decide) (by decide))
  unfold f_L_law_b1760
  intro x ex
  have tx : x.toInt = v4.toInt + 6 := by rw [ex]; exact i_add rfl (show (6 : Int32).toInt = 6 from rfl) (by omega) (by omega)
  exact hK _ _ _ x ex (LInv_mk (Z := Z) (I := I) T uT uB uM uF uS uK uC uA uV uX uY uR vR uP x0 x2 u5 u53 u54 u62 x1 uQ vQ uW vW t30 t29 u5c t6 t9 t10 t11 t12 ⟨w, bd, kv1, kv2, kv3, hl, ht, hruT, kuT, hruB, kuB, hruM⟩ ⟨kuM, hx, hruF, kuF, (by omega), (by omega), (by omega), hruS, kuS, luS, hruK, kuK⟩ ⟨hruC, kuC, hk, hruA, kuA, hruV, kuV, hv0, hruX, kuX, hruY, kuY⟩ ⟨hruR, kuR, hrvR, kvR, hs0, hc0, hs9, hpc, hpm, hru62, ku62, hp0⟩ ⟨hk2, hm1, hm0, hak, ha0, hwi, hlb, hfb, hpb, hsh⟩)
set_option maxHeartbeats 4000000 in
set_option maxRecDepth 100000 in
theorem k_b1732 {xs : Nat → Int32} {Ls : Nat} {B : Nat × Nat} {K : Nat → Nat → Nat → Int32 → jZ → jI → jL → Prop} {v1 v2 v3 : Nat} {v4 : Int32} {Z : jZ} {I : jI} {L : jL} {T uT uB uM uF uS uK uC uA uV uX uY uR vR uP x0 x2 u5 u53 u54 u62 x1 uQ vQ uW vW t30 t29 u5c t6 t9 t10 t11 t12 : Nat} (g0 : LG0 B v1 v2 v3 T uT uB uM Z I) (g1 : LG1 v1 v2 v4 uT uB uM uF uS uK Z I) (g2 : LG2 v1 v2 uF uS uK uC uA uV uX uY Z I) (g3 : LG3 v1 v2 uF uS uX uY uR vR uP x0 x2 u5 u53 u54 u62 Z I) (g4 : LG4 v1 v2 uF uS uA uP x0 u62 x1 uQ vQ uW vW t30 t29 u5c t6 t9 t10 t11 t12 Z I) (hv : 0 ≤ v4.toInt ∧ v4.toInt + 6 ≤ (Ls : Int) ∧ (Ls : Int) ≤ 3072) (hK : ∀ (Z : jZ) (I : jI) (L : jL) (x : Int32), x = v4 + 6 → LInv B v1 v2 v3 x Z I → K v1 v2 v3 x Z I L) : f_L_law_b1732 xs Ls B K v1 v2 v3 v4 Z I L := by
  obtain ⟨w, bd, kv1, kv2, kv3, hl, ht, hruT, kuT, hruB, kuB, hruM⟩ := g0
  obtain ⟨kuM, hx, hruF, kuF, hx1, hx2, hx3, hruS, kuS, luS, hruK, kuK⟩ := g1
  obtain ⟨hruC, kuC, hk, hruA, kuA, hruV, kuV, hv0, hruX, kuX, hruY, kuY⟩ := g2
  obtain ⟨hruR, kuR, hrvR, kvR, hs0, hc0, hs9, hpc, hpm, hru62, ku62, hp0⟩ := g3
  obtain ⟨hk2, hm1, hm0, hak, ha0, hwi, hlb, hfb, hpb, hsh⟩ := g4
  unfold f_L_law_b1732
  refine ⟨vi_of (i_add rfl (show (1 : Int32).toInt = 1 from rfl) (by omega) (by omega)) (by omega) (by omega), ?_⟩
  refine s_L_row w v1 _ v3 kv1 hl (fun r L => ?_)
  refine ⟨vi_of (i_add rfl (show (1 : Int32).toInt = 1 from rfl) (by omega) (by omega)) (by omega) (by omega), ?_⟩
  have wo := w
  refine s_X12_row w v2 _ kv2  (fun r2 I L w f => ?_)
  have ht : (I v1 4).toInt + (T : Int) = 6 := by rw [f.2.2.1 v1 11 4 kv1 (by decide) (by decide)]; exact ht
  have ha0 := ARr_same (f.2.2.2 uF 8 2 uQ kuF hak.1 (by rw [hak.2.1.2]; rfl) rfl (by decide)) (f.2.2.2 v2 12 3 vQ kv2 hak.2.2.1 (by rw [hak.2.2.2.1.2]; rfl) rfl (by decide)) (congrArg Int32.toInt (f.2.2.1 v2 12 0 kv2 (by decide) (by decide))) ha0
  have hwi := WI_fr f kuF kv2 (by decide) hwi
  have hlb := LB_fr f wo kuF kv2 (by decide) hlb
  have hfb := FB_fr f kuF kv2 (by decide) hfb
  have hpb := PB_fr f kv1 kuA kv2 (by decide) hpb
  have hsh : (I v2 39).toInt = -1 := by rw [f.2.2.1 v2 12 39 kv2 (by decide) (by decide)]; exact hsh
  have hak := AK_fr f wo kuF kv2 kuS luS hru62 ku62 (by decide) hak
  have hm0 := MAI_fr wo hpc.2.2.2.1 hpc.2.2.2.2.1 hm1 f (by decide) (by decide) hm0
  have hp0 := PR_same (EQC_fr f hpc (by decide)) (EQM_fr f kv2 hpm (by decide)) hp0
  have hk2 : KP2 Z I uS u62 (I v2 0).toInt.toNat := by rw [(f.2.2.1 v2 12 0 kv2 (by decide) (by decide))]; exact KP2_fr f wo.1 kuS luS kv2 hru62 ku62 (by decide) (by decide) (by decide) hk2
  have hs0 := ARr_same (f.2.2.2 uF 8 1 uX kuF hruX (by rw [kuX.2]; rfl) rfl (by decide)) (f.2.2.2 v2 12 2 uY kv2 hruY (by rw [kuY.2]; rfl) rfl (by decide)) (congrArg Int32.toInt (f.2.2.1 v2 12 0 kv2 (by decide) (by decide))) hs0
  have hc0 := KC_fr f wo.1 kuS luS kv2 hru62 ku62 (by decide) (by decide) (by decide) (congrArg Int32.toInt (f.2.2.1 v2 12 0 kv2 (by decide) (by decide))) hc0
  have hs9 := ARr_same (f.2.2.2 uF 8 0 uR kuF hruR (by rw [kuR.2]; rfl) rfl (by decide)) (f.2.2.2 v2 12 1 vR kv2 hrvR (by rw [kvR.2]; rfl) rfl (by decide)) (congrArg Int32.toInt (f.2.2.1 v2 12 0 kv2 (by decide) (by decide))) hs9
  have hv0 := PRr_fr f kv1 kuA (eMf f kv2 hruV kuV rfl (by decide)) (by decide) (by decide) hv0
  have hk := HK_fr f kuS kv2 hruK kuK hruC kuC (by decide) (by decide) (by decide) (by decide) hk
  have hx := TBr_fr f kuT hruB kuB kv2 hruM kuM (by decide) (by decide) (by decide) (by decide) hx
  have ea436 := congrArg Int32.toInt (f.2.2.1 uF 8 9 kuF (by decide) (by decide))
  have ea437 := congrArg Int32.toInt (f.2.2.1 v2 12 0 kv2 (by decide) (by decide))
  have ea438 := congrArg Int32.toInt (f.2.2.1 v2 12 7 kv2 (by decide) (by decide))
  have ea439 := congrArg Int32.toInt (f.2.2.1 v1 11 4 kv1 (by decide) (by decide))
  have ea440 := congrArg Int32.toInt (f.2.2.1 v2 12 8 kv2 (by decide) (by decide))
  unfold f_L_law_b1760
  intro x ex
  have tx : x.toInt = v4.toInt + 6 := by rw [ex]; exact i_add rfl (show (6 : Int32).toInt = 6 from rfl) (by omega) (by omega)
  exact hK _ _ _ x ex (LInv_mk (Z := Z) (I := I) T uT uB uM uF uS uK uC uA uV uX uY uR vR uP x0 x2 u5 u53 u54 u62 x1 uQ vQ uW vW t30 t29 u5c t6 t9 t10 t11 t12 ⟨w, bd, kv1, kv2, kv3, hl, ht, hruT, kuT, hruB, kuB, hruM⟩ ⟨kuM, hx, hruF, kuF, (by omega), (by omega), (by omega), hruS, kuS, luS, hruK, kuK⟩ ⟨hruC, kuC, hk, hruA, kuA, hruV, kuV, hv0, hruX, kuX, hruY, kuY⟩ ⟨hruR, kuR, hrvR, kvR, hs0, hc0, hs9, hpc, hpm, hru62, ku62, hp0⟩ ⟨hk2, hm1, hm0, hak, ha0, hwi, hlb, hfb, hpb, hsh⟩)
set_option maxHeartbeats 4000000 in
set_option maxRecDepth 100000 in
theorem k_L23 {xs : Nat → Int32} {Ls : Nat} {B : Nat × Nat} (hL : Ls ≤ 3072) : ∀ (n v1 v2 v3 : Nat) (v4 : Int32) (Z : jZ) (I : jI) (L : jL), LInv B v1 v2 v3 v4 Z I → 0 ≤ v4.toInt → v4.toInt ≤ (Ls : Int) → (Ls : Int) - v4.toInt < 6 * (n : Int) → f_L_law_L23 xs Ls B n v1 v2 v3 v4 Z I L := by
  intro n
  induction n with
  | zero => intro v1 v2 v3 v4 Z I L hi h0 h1 h2; exfalso; omega
  | succ n ih =>
    intro v1 v2 v3 v4 Z I L hi h0 h1 h2
    obtain ⟨T, uT, uB, uM, uF, uS, uK, uC, uA, uV, uX, uY, uR, vR, uP, x0, x2, u5, u53, u54, u62, x1, uQ, vQ, uW, vW, t30, t29, u5c, t6, t9, t10, t11, t12, g0, g1, g2, g3, g4⟩ := hi
    unfold f_L_law_L23
    refine ⟨fun _ => trivial, fun c => ?_⟩
    have hn : (Int32.ofNat Ls).toInt = (Ls : Int) := i_nI (n := Ls) (by omega)
    have t := (not_congr (i_lt (i_sub hn (show (6 : Int32).toInt = 6 from rfl) (by omega) (by omega)) rfl)).mp c
    have hv : 0 ≤ v4.toInt ∧ v4.toInt + 6 ≤ (Ls : Int) ∧ (Ls : Int) ≤ 3072 := by omega
    have hK : ∀ (Z : jZ) (I : jI) (L : jL) (x : Int32), x = v4 + 6 → LInv B v1 v2 v3 x Z I → f_L_law_L23 xs Ls B n v1 v2 v3 x Z I L := fun Z I L x ex hi' => by
      have hx : x.toInt = v4.toInt + 6 := by rw [ex]; exact i_add rfl (show (6 : Int32).toInt = 6 from rfl) (by omega) (by omega)
      exact ih v1 v2 v3 x Z I L hi' (by omega) (by omega) (by omega)
    refine ⟨vi_of rfl (by omega) (by omega), ?_⟩
    refine ⟨fun _ => k_b244 g0 g1 g2 g3 g4 hv hK, fun _ => ?_⟩
    refine ⟨fun _ => k_b269 g0 g1 g2 g3 g4 hv hK, fun _ => ?_⟩
    refine ⟨fun _ => k_b294 g0 g1 g2 g3 g4 hv hK, fun _ => ?_⟩
    refine ⟨fun _ => k_b307 g0 g1 g2 g3 g4 hv hK, fun _ => ?_⟩
    refine ⟨fun _ => k_b332 g0 g1 g2 g3 g4 hv hK, fun _ => ?_⟩
    refine ⟨fun _ => k_b400 g0 g1 g2 g3 g4 hv hK, fun _ => ?_⟩
    refine ⟨fun _ => k_b449 g0 g1 g2 g3 g4 hv hK, fun _ => ?_⟩
    refine ⟨fun _ => k_b510 g0 g1 g2 g3 g4 hv hK, fun _ => ?_⟩
    refine ⟨fun _ => k_b575 g0 g1 g2 g3 g4 hv hK, fun _ => ?_⟩
    refine ⟨fun _ => k_b600 g0 g1 g2 g3 g4 hv hK, fun _ => ?_⟩
    refine ⟨fun _ => k_b661 g0 g1 g2 g3 g4 hv hK, fun _ => ?_⟩
    refine ⟨fun _ => k_b698 g0 g1 g2 g3 g4 hv hK, fun _ => ?_⟩
    refine ⟨fun _ => k_b738 g0 g1 g2 g3 g4 hv hK, fun _ => ?_⟩
    refine ⟨fun _ => k_b775 g0 g1 g2 g3 g4 hv hK, fun _ => ?_⟩
    refine ⟨fun _ => k_b812 g0 g1 g2 g3 g4 hv hK, fun _ => ?_⟩
    refine ⟨fun _ => k_b849 g0 g1 g2 g3 g4 hv hK, fun _ => ?_⟩
    refine ⟨fun _ => k_b874 g0 g1 g2 g3 g4 hv hK, fun _ => ?_⟩
    refine ⟨fun _ => k_b899 g0 g1 g2 g3 g4 hv hK, fun _ => ?_⟩
    refine ⟨fun _ => k_b924 g0 g1 g2 g3 g4 hv hK, fun _ => ?_⟩
    refine ⟨fun _ => k_b949 g0 g1 g2 g3 g4 hv hK, fun _ => ?_⟩
    refine ⟨fun _ => k_b986 g0 g1 g2 g3 g4 hv hK, fun _ => ?_⟩
    refine ⟨fun _ => k_b1035 g0 g1 g2 g3 g4 hv hK, fun _ => ?_⟩
    refine ⟨fun _ => k_b1072 g0 g1 g2 g3 g4 hv hK, fun _ => ?_⟩
    refine ⟨fun _ => k_b1109 g0 g1 g2 g3 g4 hv hK, fun _ => ?_⟩
    refine ⟨fun _ => k_b1134 g0 g1 g2 g3 g4 hv hK, fun _ => ?_⟩
    refine ⟨fun _ => k_b1159 g0 g1 g2 g3 g4 hv hK, fun _ => ?_⟩
    refine ⟨fun _ => k_b1172 g0 g1 g2 g3 g4 hv hK, fun _ => ?_⟩
    refine ⟨fun _ => k_b1197 g0 g1 g2 g3 g4 hv hK, fun _ => ?_⟩
    refine ⟨fun _ => k_b1222 g0 g1 g2 g3 g4 hv hK, fun _ => ?_⟩
    refine ⟨fun _ => k_b1247 g0 g1 g2 g3 g4 hv hK, fun _ => ?_⟩
    refine ⟨fun _ => k_b1272 g0 g1 g2 g3 g4 hv hK, fun _ => ?_⟩
    refine ⟨fun _ => k_b1285 g0 g1 g2 g3 g4 hv hK, fun _ => ?_⟩
    refine ⟨fun _ => k_b1310 g0 g1 g2 g3 g4 hv hK, fun _ => ?_⟩
    refine ⟨fun _ => k_b1347 g0 g1 g2 g3 g4 hv hK, fun _ => ?_⟩
    refine ⟨fun _ => k_b1372 g0 g1 g2 g3 g4 hv hK, fun _ => ?_⟩
    refine ⟨fun _ => k_b1397 g0 g1 g2 g3 g4 hv hK, fun _ => ?_⟩
    refine ⟨fun _ => k_b1434 g0 g1 g2 g3 g4 hv hK, fun _ => ?_⟩
    refine ⟨fun _ => k_b1507 g0 g1 g2 g3 g4 hv hK, fun _ => ?_⟩
    refine ⟨fun _ => k_b1544 g0 g1 g2 g3 g4 hv hK, fun _ => ?_⟩
    refine ⟨fun _ => k_b1557 g0 g1 g2 g3 g4 hv hK, fun _ => ?_⟩
    refine ⟨fun _ => k_b1582 g0 g1 g2 g3 g4 hv hK, fun _ => ?_⟩
    refine ⟨fun _ => k_b1619 g0 g1 g2 g3 g4 hv hK, fun _ => ?_⟩
    refine ⟨fun _ => k_b1644 g0 g1 g2 g3 g4 hv hK, fun _ => ?_⟩
    refine ⟨fun _ => k_b1657 g0 g1 g2 g3 g4 hv hK, fun _ => ?_⟩
    refine ⟨fun _ => k_b1682 g0 g1 g2 g3 g4 hv hK, fun _ => ?_⟩
    refine ⟨fun _ => k_b1707 g0 g1 g2 g3 g4 hv hK, fun _ => ?_⟩
    refine ⟨fun _ => k_b1732 g0 g1 g2 g3 g4 hv hK, fun _ => ?_⟩
    unfold f_L_law_b1760
    intro x ex
    have tx : x.toInt = v4.toInt + 6 := by rw [ex]; exact i_add rfl (show (6 : Int32).toInt = 6 from rfl) (by omega) (by omega)
    obtain ⟨w, bd, kv1, kv2, kv3, hl, ht, hruT, kuT, hruB, kuB, hruM⟩ := g0
    obtain ⟨kuM, hx, hruF, kuF, hx1, hx2, hx3, hruS, kuS, luS, hruK, kuK⟩ := g1
    obtain ⟨hruC, kuC, hk, hruA, kuA, hruV, kuV, hv0, hruX, kuX, hruY, kuY⟩ := g2
    obtain ⟨hruR, kuR, hrvR, kvR, hs0, hc0, hs9, hpc, hpm, hru62, ku62, hp0⟩ := g3
    obtain ⟨hk2, hm1, hm0, hak, ha0, hwi, hlb, hfb, hpb, hsh⟩ := g4
    exact hK _ _ _ x ex (LInv_mk (Z := Z) (I := I) T uT uB uM uF uS uK uC uA uV uX uY uR vR uP x0 x2 u5 u53 u54 u62 x1 uQ vQ uW vW t30 t29 u5c t6 t9 t10 t11 t12 ⟨w, bd, kv1, kv2, kv3, hl, ht, hruT, kuT, hruB, kuB, hruM⟩ ⟨kuM, hx, hruF, kuF, (by omega), (by omega), (by omega), hruS, kuS, luS, hruK, kuK⟩ ⟨hruC, kuC, hk, hruA, kuA, hruV, kuV, hv0, hruX, kuX, hruY, kuY⟩ ⟨hruR, kuR, hrvR, kvR, hs0, hc0, hs9, hpc, hpm, hru62, ku62, hp0⟩ ⟨hk2, hm1, hm0, hak, ha0, hwi, hlb, hfb, hpb, hsh⟩)
theorem cj2_X11_init {v0 : Nat} {Z : jZ} {I : jI} {L : jL} {Q1 Q3 : jZ → jI → jL → Prop} (h1 : f_X11_init v0 Z I L Q1) (h2 : f_X11_init v0 Z I L (fun Z I L => Q1 Z I L → Q3 Z I L)) : f_X11_init v0 Z I L Q3 := cj_X11_init h1 h2 (fun _ _ _ a b => b a)
theorem cj2_X12_init {v0 : Nat} {Z : jZ} {I : jI} {L : jL} {Q1 Q3 : jZ → jI → jL → Prop} (h1 : f_X12_init v0 Z I L Q1) (h2 : f_X12_init v0 Z I L (fun Z I L => Q1 Z I L → Q3 Z I L)) : f_X12_init v0 Z I L Q3 := cj_X12_init h1 h2 (fun _ _ _ a b => b a)
set_option maxHeartbeats 4000000 in
set_option maxRecDepth 100000 in
theorem law_true {xs : Nat → Int32} {Ls : Nat} (hL : Ls ≤ 3072) : f_L_law xs Ls := by
  unfold f_L_law
  intro q1 n1 Z1 eZ1 I1 eI1 L1 eL1
  have pw0 : PW jZe jIe := by
    refine ⟨⟨List.nodup_nil, fun a c j b hk => absurd hk.1 List.not_mem_nil, fun a c j a' c' j' b hk => absurd hk.1 List.not_mem_nil⟩, ⟨fun a c j hk => absurd hk.1 List.not_mem_nil, fun a c j b hk => absurd hk.1 List.not_mem_nil⟩, fun a b0 b1 b2 b4 hk => absurd hk.1 List.not_mem_nil⟩
  have sh0 : SH jZe := ⟨fun a c hk => absurd hk.1 List.not_mem_nil, fun a hk => absurd hk.1 List.not_mem_nil, fun a hk => absurd hk.1 List.not_mem_nil, fun a hk => absurd hk.1 List.not_mem_nil⟩
  have c1 := CW_nw 11 0 (CW_start pw0) n1
  rw [← eZ1, ← eI1] at c1
  have d0 : CI (jZe, jIe, jLe) jZe jIe jLe [] := ⟨jext_rfl, fun a ha => absurd ha List.not_mem_nil, fun a c ha => absurd ha.1 List.not_mem_nil⟩
  have d1 := CI_nw (k := 11) (m := 0) d0 n1
  rw [← eZ1, ← eI1, ← eL1] at d1
  refine cj2_X11_init (p_X11_init (jZe, jIe, jLe) Z1 I1 L1 [] q1 (fun Z I L => CI (jZe, jIe, jLe) Z I L []) d1 (by rw [eZ1]; exact jk_nw) List.not_mem_nil List.not_mem_nil (fun u hu => absurd hu List.not_mem_nil) (fun j => by rw [eI1]; exact congrFun (va_up_self _ _ _) j) (fun j => by rw [eL1]; exact congrFun (va_up_self _ _ _) j) (fun Z2 I2 L2 c2 x2 _ => c2)) ?_
  refine cw_X11_init jZe jIe Z1 I1 L1 [] q1 _ _ _ _ c1 (by rw [eZ1]; exact jk_nw) List.not_mem_nil (fun j => by rw [eZ1]; exact jr_new) (fun j => by rw [eI1]; exact congrFun (va_up_self _ _ _) j) (fun Z2 I2 L2 c2 k2 nh2 _ x2 o2 => ?_)
  intro d2
  have d2 : CI (jZe, jIe, jLe) Z2 I2 L2 [] := d2
  intro q2 n2 Z3 eZ3 I3 eI3 L3 eL3
  have c3 := CW_nw 12 0 c2 n2
  rw [← eZ3, ← eI3] at c3
  have hne12 : q1 ≠ q2 := fun e => n2 (e ▸ k2.1)
  have k3 : jk Z3 q1 11 := by rw [eZ3]; exact ((jext_nw n2) _ _ k2).1
  have d3 := CI_nw (k := 12) (m := 0) d2 n2
  rw [← eZ3, ← eI3, ← eL3] at d3
  refine cj2_X12_init (p_X12_init (jZe, jIe, jLe) Z3 I3 L3 [] q2 (fun Z I L => CI (jZe, jIe, jLe) Z I L []) d3 (by rw [eZ3]; exact jk_nw) List.not_mem_nil List.not_mem_nil (fun u hu => absurd hu List.not_mem_nil) (fun j => by rw [eI3]; exact congrFun (va_up_self _ _ _) j) (fun j => by rw [eL3]; exact congrFun (va_up_self _ _ _) j) (fun Z4 I4 L4 c4 x4 _ => c4)) ?_
  refine cw_X12_init jZe jIe Z3 I3 L3 [] q2 _ _ _ _ c3 (by rw [eZ3]; exact jk_nw) List.not_mem_nil (fun j => by rw [eZ3]; exact jr_new) (fun j => by rw [eI3]; exact congrFun (va_up_self _ _ _) j) (fun Z4 I4 L4 c4 k4 nh4 _ x4 o4 => ?_)
  intro d4
  have d4 : CI (jZe, jIe, jLe) Z4 I4 L4 [] := d4
  intro q3 n3 Z5 eZ5 I5 eI5 L5 eL5
  have c5 := CW_nw 15 1 c4 n3
  rw [← eZ5, ← eI5] at c5
  have c6 := CW_done c5 (c := 15) (by rw [eZ5]; exact jk_nw) (sh1_prim (by decide) (by decide))
  have sh5 : SH Z5 := CW_SH c6 sh0
  have w5 : WD Z5 I5 := ⟨sh5, c6.2.2.2.1⟩
  have k41 : jk Z4 q1 11 := (x4 _ _ k3).1
  have k51 : jk Z5 q1 11 := by rw [eZ5]; exact ((jext_nw n3) _ _ k41).1
  have k52 : jk Z5 q2 12 := by rw [eZ5]; exact ((jext_nw n3) _ _ k4).1
  have k53 : jk Z5 q3 15 := by rw [eZ5]; exact jk_nw
  have l53 : jlen Z5 q3 = 1 := by rw [eZ5]; exact jlen_nw (k := 15)
  have d5 := CI_nw (k := 15) (m := 1) d4 n3
  rw [← eZ5, ← eI5, ← eL5] at d5
  have d6 := CI_done d5 k53 List.not_mem_nil ⟨fun j k o e => jsh_no (by decide) e, fun e => by omega, fun e => by omega, fun e => by omega⟩ ⟨fun j => by rw [eI5]; exact (congrFun (va_up_self _ _ _) j).trans (by simp [jz]), fun j => by rw [eL5]; exact congrFun (va_up_self _ _ _) j⟩
  have hN : ∀ a c, jk Z5 a c → fr1 I5 L5 a c := fun a c ha => (d6.2.2 a c ha List.not_mem_nil List.not_mem_nil).2
  obtain ⟨uT, hruT, kuT⟩ := sh_o sh5 k51 (j := 0) (k := 10) rfl
  obtain ⟨uF, hruF, kuF⟩ := sh_o sh5 k51 (j := 2) (k := 8) rfl
  obtain ⟨uB, hruB, kuB, -⟩ := sh_f sh5 kuT (j := 0) (k := 13) (m := 80) rfl
  obtain ⟨uM, hruM, kuM, -⟩ := sh_f sh5 k52 (j := 18) (k := 13) (m := 80) rfl
  have hx : TBr I5 uT uB q2 uM := ⟨by rw [(hN uT 10 kuT).1, (hN q2 12 k52).1]; rfl, fun i => by rw [(hN uB 13 kuB).1, jz_arr (by decide) i]; exact ⟨by decide, by decide⟩, fun i _ => by rw [(hN uB 13 kuB).1, (hN uM 13 kuM).1]⟩
  obtain ⟨uS, hruS, kuS, luS⟩ := sh_f sh5 k51 (j := 8) (k := 17) (m := 2) rfl
  obtain ⟨uK, hruK, kuK, -⟩ := sh_f sh5 k52 (j := 63) (k := 16) (m := 2) rfl
  obtain ⟨uC, hruC, kuC, -⟩ := sh_f sh5 k52 (j := 64) (k := 14) (m := 2) rfl
  have hk : HK Z5 I5 uS q2 uK uC := by
    refine ⟨by rw [(hN q2 12 k52).1]; decide, fun i b hi hb => ?_⟩
    obtain ⟨b9, e9, kb⟩ := sh5.2.2.1 uS kuS i (by rw [luS]; exact hi)
    cases hb.symm.trans e9
    have y1 : I5 uK i = 0 := by rw [(hN uK 16 kuK).1]; exact jz_arr (by decide) i
    have y2 : I5 uC i = 0 := by rw [(hN uC 14 kuC).1]; exact jz_arr (by decide) i
    have y3 : I5 b 8 = 0 := by rw [(hN b 2 kb).1]; rfl
    have y4 : I5 q2 7 = 0 := by rw [(hN q2 12 k52).1]; rfl
    rw [y1, y2, y3, y4]
    exact ⟨kb, by decide, by decide⟩
  obtain ⟨uA, hruA, kuA, -⟩ := sh_f sh5 k51 (j := 3) (k := 18) (m := 6) rfl
  obtain ⟨uV, hruV, kuV, -⟩ := sh_f sh5 k52 (j := 13) (k := 14) (m := 6) rfl
  have hv0 : PRr 4 Z5 I5 q1 uA uV := fun i hi => by
    rw [(hN q1 11 k51).1, show (jz 11 4).toInt = 0 from rfl] at hi
    exact absurd hi (by omega)
  obtain ⟨u62, hru62, ku62, -⟩ := sh_f sh5 k52 (j := 62) (k := 14) (m := 532) rfl
  obtain ⟨uX, hruX, kuX, -⟩ := sh_f sh5 kuF (j := 1) (k := 14) (m := 24) rfl
  obtain ⟨uY, hruY, kuY, -⟩ := sh_f sh5 k52 (j := 2) (k := 14) (m := 24) rfl
  obtain ⟨uR, hruR, kuR, -⟩ := sh_f sh5 kuF (j := 0) (k := 14) (m := 24) rfl
  obtain ⟨vR, hrvR, kvR, -⟩ := sh_f sh5 k52 (j := 1) (k := 14) (m := 24) rfl
  have no9 : ∀ s : Nat, (s : Int) < (I5 q2 0).toInt → False := fun s hs => by
    rw [(hN q2 12 k52).1, show (jz 12 0).toInt = 0 from rfl] at hs
    omega
  have hs0 : ARr (I5 q2 0).toInt (I5 uX) (I5 uY) := fun s hs => (no9 s hs).elim
  have hc0 : KC Z5 I5 uS u62 (I5 q2 0).toInt := fun i b a hi hb hh ha s hs => (no9 s hs).elim
  have hs9 : ARr (I5 q2 0).toInt (I5 uR) (I5 vR) := fun s hs => (no9 s hs).elim
  obtain ⟨uP, hruP, kuP⟩ := sh_o sh5 kuF (j := 4) (k := 4) rfl
  obtain ⟨x0, hrx0, kx0, -⟩ := sh_f sh5 kuP (j := 0) (k := 14) (m := 192) rfl
  obtain ⟨x1, hrx1, kx1, -⟩ := sh_f sh5 kuP (j := 1) (k := 14) (m := 24) rfl
  obtain ⟨x2, hrx2, kx2, -⟩ := sh_f sh5 kuP (j := 2) (k := 14) (m := 1536) rfl
  obtain ⟨u5, hru5, ku5, -⟩ := sh_f sh5 k52 (j := 5) (k := 14) (m := 192) rfl
  obtain ⟨u53, hru53, ku53, -⟩ := sh_f sh5 k52 (j := 53) (k := 14) (m := 1536) rfl
  obtain ⟨u54, hru54, ku54, -⟩ := sh_f sh5 k52 (j := 54) (k := 14) (m := 192) rfl
  have hpc : PCs Z5 q1 uF uP x0 x2 := ⟨hruF, kuF, hruP, kuP, hrx0, kx0, hrx2, kx2⟩
  have hpm : PMs Z5 q2 u5 u53 u54 := ⟨hru5, ku5, hru53, ku53, hru54, ku54⟩
  have e09 : (I5 q2 0).toInt.toNat = 0 := by rw [(hN q2 12 k52).1]; rfl
  have e49 : (I5 uP 4).toInt.toNat = 0 := by rw [(hN uP 4 kuP).1]; rfl
  have e529 : (I5 q2 52).toInt.toNat = 0 := by rw [(hN q2 12 k52).1]; rfl
  have hp0 : PR I5 uP x0 x2 q2 u5 u53 := by
    unfold PR
    rw [e09, e49, e529]
    exact ⟨⟨fun s hs => absurd hs (by omega), fun z _ _ => by rw [(hN x0 14 kx0).1]; exact jz_arr (by decide) z, fun s hs => absurd hs (Nat.not_lt_zero s)⟩, rfl, fun k hk => absurd hk (Nat.not_lt_zero k)⟩
  have hk2 : KP2 Z5 I5 uS u62 (I5 q2 0).toInt.toNat := fun i b a hi hb hh ha => by
    obtain ⟨b9, e9, kb⟩ := sh5.2.2.1 uS kuS i (by rw [luS]; exact hi)
    cases hb.symm.trans e9
    exact absurd (by rw [(hN b 2 kb).1]; rfl) hh
  have hm1 := hrx1
  have hm0 : MAI I5 x0 x1 := fun s hs => by
    rw [(hN x1 14 kx1).1, jz_arr (by decide) s, mnR_z (fun z => by rw [(hN x0 14 kx0).1]; exact jz_arr (by decide) z) s]
    rfl
  obtain ⟨uQ, vQ, uW, vW, t30, t29, u5c, t6, t9, t10, t11, t12, hak, ha0, hwi, hlb, hfb, hpb, hsh⟩ := MK_new uS u62 uA w5 k51 k52 kuF hN
  have i4 : 0 ≤ (I5 q1 4).toInt ∧ (I5 q1 4).toInt ≤ 6 := w5.fld 11 4 k51 (by decide)
  obtain ⟨g1, g2, g3⟩ := c6.2.2.2.2.2.1
  have j11 : jcs 11 0 = 17 := rfl
  refine ⟨sh5, (jcz Z5 + potc Z5 + 6 * 4121, jsz Z5 + 128 * potc Z5 + 6 * 524632), 513, ⟨Nat.le_refl _, ⟨?_, ?_⟩, ?_, ?_⟩, k_L23 hL 513 q1 q2 q3 0 Z5 I5 L5 (LInv_mk (v1 := q1) (v2 := q2) (v3 := q3) (v4 := 0) (Z := Z5) (I := I5) (6 - (I5 q1 4).toInt).toNat uT uB uM uF uS uK uC uA uV uX uY uR vR uP x0 x2 u5 u53 u54 u62 x1 uQ vQ uW vW t30 t29 u5c t6 t9 t10 t11 t12 ⟨w5, ⟨by show jcz Z5 + potc Z5 + _ ≤ jcz Z5 + potc Z5 + 6 * 4121; omega, by show jsz Z5 + 128 * potc Z5 + _ ≤ jsz Z5 + 128 * potc Z5 + 6 * 524632; omega⟩, k51, k52, k53, l53, (by omega), hruT, kuT, hruB, kuB, hruM⟩ ⟨kuM, hx, hruF, kuF, (by rw [(hN uF 8 kuF).1, (hN q2 12 k52).1]; rfl), (by rw [(hN q2 12 k52).1]; decide), (by rw [(hN q1 11 k51).1, (hN q2 12 k52).1]; rfl), hruS, kuS, luS, hruK, kuK⟩ ⟨hruC, kuC, hk, hruA, kuA, hruV, kuV, hv0, hruX, kuX, hruY, kuY⟩ ⟨hruR, kuR, hrvR, kvR, hs0, hc0, hs9, hpc, hpm, hru62, ku62, hp0⟩ ⟨hk2, hm1, hm0, hak, ha0, hwi, hlb, hfb, hpb, hsh⟩) (by decide) (by show (0 : Int32).toInt ≤ _; rw [show (0 : Int32).toInt = 0 from rfl]; omega) (by rw [show (0 : Int32).toInt = 0 from rfl]; omega)⟩
  · exact Nat.le_trans (Nat.le_add_right (jcz Z5) (potc Z5)) (Nat.le_add_right _ _)
  · exact Nat.le_trans (Nat.le_add_right (jsz Z5) (128 * potc Z5)) (Nat.le_add_right _ _)
  · show jcz Z5 + potc Z5 + 6 * 4121 ≤ jcz Z5 + 50000
    have : potc jZe = 0 := rfl
    simp only [if_neg (show ¬ (11 : Nat) = 7 by decide), if_neg (show ¬ (12 : Nat) = 7 by decide), if_neg (show ¬ (15 : Nat) = 7 by decide)] at g3
    omega
  · show jsz Z5 + 128 * potc Z5 + 6 * 524632 ≤ jsz Z5 + 6000000
    have : potc jZe = 0 := rfl
    simp only [if_neg (show ¬ (11 : Nat) = 7 by decide), if_neg (show ¬ (12 : Nat) = 7 by decide), if_neg (show ¬ (15 : Nat) = 7 by decide)] at g3
    omega
