def rsA (A : AS) (a b : Nat) : Nat → Bool := rsk (goa (aP A) (aN A).2 a ((aN A).1 a)) (goc (aP A) (aN A).2 a ((aN A).1 a)) (goa (aP A) (aN A).2 b ((aN A).1 b)) (goc (aP A) (aN A).2 b ((aN A).1 b))
def f_rests (A : AS) (x y k : Int32) : Int32 × AS := (if inr x (pb (aP A)) = true ∧ inr y (pb (aP A)) = true then (if x = y ∨ ¬ (k = 0 ∨ k = nI 1) then -2 else if k = 0 then nI (bcnt (rsA A (ix x) (ix y)) 16) else o9 (rfst (rsA A (ix x) (ix y)) 16)) else -1, A)
def f_strays (A : AS) (x y : Int32) (u : Bool) : Int32 × AS := (if inr x (pb (aP A)) = true then (if in1 y 5 = true then nI (frc (wkh (aP A) (aN A).2 (ix x) (ix y) ((aN A).1 (ix x))) (4 ^ ix y) u) else -2) else -1, A)
theorem goa_le (p : PT) (cut b pl y : Nat) : goa p cut b pl y ≤ 2 := by unfold goa; split <;> split <;> omega
theorem gol_s4 {p : PT} {cut b pl g : Nat} {mu : zmu} {y : Nat} (hy : y < 4) : gol p cut b pl g 4 mu (g + 1) y = nI (goc p cut b pl y) ∧ gol p cut b pl g 4 mu (g + 2) y = nI (goa p cut b pl y) := by
  unfold gol
  refine ⟨?_, ?_⟩
  · rw [uR_a (by omega), uR_s, fil_lt hy]
  · rw [uR_s, fil_lt hy]
def restM (A : AS) (a b : Nat) (mu : zmu) : zmu := gol (aP A) (aN A).2 b ((aN A).1 b) 59 4 (gol (aP A) (aN A).2 a ((aN A).1 a) 56 4 mu)
theorem restM_o {A : AS} {a b : Nat} {mu : zmu} {x : Nat} (h : x ≠ 57 ∧ x ≠ 58 ∧ x ≠ 60 ∧ x ≠ 61) : restM A a b mu x = mu x := by
  unfold restM; rw [gol_o (by omega) (by omega), gol_o (by omega) (by omega)]
theorem restM_G {A : AS} (hA : AV A) {a b : Nat} (ha : a < pb (aP A)) (hb : b < pb (aP A)) {mu : zmu} : GF (goa (aP A) (aN A).2 a ((aN A).1 a)) (goc (aP A) (aN A).2 a ((aN A).1 a)) (goa (aP A) (aN A).2 b ((aN A).1 b)) (goc (aP A) (aN A).2 b ((aN A).1 b)) (restM A a b mu) := by
  intro y hy
  have hV := hA.2.1
  have h20 : pw (aP A) * ph (aP A) ≤ 20 := hA.n
  have g1 := goc_lt hA.1 (cut := (aN A).2) ha (hV.1 a ha).1 (hV.1 a ha).2 hy
  have g2 := goc_lt hA.1 (cut := (aN A).2) hb (hV.1 b hb).1 (hV.1 b hb).2 hy
  refine ⟨?_, ?_, (gol_s4 hy).1, (gol_s4 hy).2, by omega, by omega, goa_le _ _ _ _ _, goa_le _ _ _ _ _⟩
  · unfold restM; rw [gol_o (by decide) (by decide)]; exact (gol_s4 hy).1
  · unfold restM; rw [gol_o (by decide) (by decide)]; exact (gol_s4 hy).2
set_option maxRecDepth 4000 in
theorem k_rests {X : zX} {mu : zmu} {nu : znu} {A : AS} (hA : AV A) (hC : CR A mu nu) (x y k : Int32) (d : Nat) : zJ X M_X8_rests (d + 10) 0 0 0 [.ref 0, .int x, .int y, .int k] [] 86 (zEE (mu) (nu)) (zlift (QC (f_rests A x y k) mu nu)) := by
  obtain ⟨hP, hS, hR, hK, hE, hT, hSR, hD⟩ := id hC
  have hp := hA.1
  have hV := hA.2.1
  have h20 := hA.n
  have h5 := hA.b
  refine z_aload_n dX8_rests_0 rfl ?_
  refine y_getR dX8_rests_1 lf_X8_19 rfl rfl ?_
  refine z_iload_n dX8_rests_4 rfl ?_
  refine y_callV1x (M' := M_X3_hasBoy) dX8_rests_5 lm_X8_139 cv_X3_hasBoy rfl (Nat.le_of_ble_eq_true rfl) (Nat.le_of_ble_eq_true rfl) rfl (c_hasBoy hp hP x _) ?_
  refine zb_if_eq (tgt := 22) dX8_rests_8 (by decide) (fun hc8 => ?_) (fun hc8 => ?_)
  · have g : inr x (pb (aP A)) = false := hc8
    refine z_iconst (v := -1) dX8_rests_22 rfl ?_
    exact y_ireturn dX8_rests_23 rfl (QC_rf hC (by simp [f_rests, g]))
  · refine z_aload_n dX8_rests_11 rfl ?_
    refine y_getR dX8_rests_12 lf_X8_19 rfl rfl ?_
    refine z_iload_n dX8_rests_15 rfl ?_
    refine y_callV1x (M' := M_X3_hasBoy) dX8_rests_16 lm_X8_139 cv_X3_hasBoy rfl (Nat.le_of_ble_eq_true rfl) (Nat.le_of_ble_eq_true rfl) rfl (c_hasBoy hp hP y _) ?_
    refine zb_if_ne (tgt := 24) dX8_rests_19 (by decide) (fun hc19 => ?_) (fun hc19 => ?_)
    · have g : inr x (pb (aP A)) = true := hc8
      have g2 : inr y (pb (aP A)) = true := hc19
      obtain ⟨a, ha, rfl⟩ := inr_t (show inr x (pb (aP A)) = true from g) (by omega)
      obtain ⟨b, hb, rfl⟩ := inr_t (show inr y (pb (aP A)) = true from g2) (by omega)
      refine z_iload_n dX8_rests_24 rfl ?_
      refine z_iload_n dX8_rests_25 rfl ?_
      refine z_icmp_eq (tgt := 38) dX8_rests_26 (by decide) (fun hc26 => ?_) (fun hc26 => ?_)
      · refine z_bipush (v := -2) dX8_rests_38 rfl ?_
        exact y_ireturn dX8_rests_40 rfl (QC_rf hC (by simp only [f_rests, g, g2, true_and, if_true]; rw [if_pos (Or.inl hc26)]))
      · have hne := hc26
        refine z_iload_n dX8_rests_29 rfl ?_
        refine z_if_eq (tgt := 41) dX8_rests_30 (by decide) (fun hc30 => ?_) (fun hc30 => ?_)
        · refine z_aload_n dX8_rests_41 rfl ?_
          refine y_getR dX8_rests_42 lf_X8_74 rfl rfl ?_
          refine z_aload_n dX8_rests_45 rfl ?_
          refine y_getR dX8_rests_46 lf_X8_28 rfl rfl ?_
          refine z_iload_n dX8_rests_49 rfl ?_
          refine y_callV2x (M' := M_X2_lookAt) dX8_rests_50 lm_X8_245 cv_X2_lookAt rfl (Nat.le_of_ble_eq_true rfl) (Nat.le_of_ble_eq_true rfl) rfl (c_lookAt56 hp hP hS hV ha _) ?_
          refine z_aload_n dX8_rests_53 rfl ?_
          refine y_getR dX8_rests_54 lf_X8_78 rfl rfl ?_
          refine z_aload_n dX8_rests_57 rfl ?_
          refine y_getR dX8_rests_58 lf_X8_28 rfl rfl ?_
          refine z_iload_n dX8_rests_61 rfl ?_
          have hP2 := PFc_eq hP (fun z h1 h2 => gol_o (p := aP A) (cut := (aN A).2) (b := a) (pl := (aN A).1 a) (g := 56) (i := 4) (mu := mu) (a := z) (by omega) (by omega))
          have hS2 : SFc (aP A) (aN A).1 (aN A).2 10 (gol (aP A) (aN A).2 a ((aN A).1 a) 56 4 mu) := SFc_eq hS (gol_o (by decide) (by decide)) (gol_o (by decide) (by decide))
          refine y_callV2x (M' := M_X2_lookAt) dX8_rests_62 lm_X8_245 cv_X2_lookAt rfl (Nat.le_of_ble_eq_true rfl) (Nat.le_of_ble_eq_true rfl) rfl (c_lookAt59 hp hP2 hS2 hV hb _) ?_
          rw [show gol (aP A) (aN A).2 b ((aN A).1 b) 59 4 (gol (aP A) (aN A).2 a ((aN A).1 a) 56 4 mu) = restM A a b mu from rfl]
          have hG := restM_G hA ha hb (mu := mu)
          refine z_iload_n dX8_rests_65 rfl ?_
          refine z_if_ne (tgt := 76) dX8_rests_66 (by decide) (fun hc66 => ?_) (fun hc66 => ?_)
          · refine z_aload_n dX8_rests_76 rfl ?_
            refine y_callV0x (M' := M_X8_firstRest) dX8_rests_77 lm_X8_252 cv_X8_firstRest rfl (Nat.le_of_ble_eq_true rfl) (Nat.le_of_ble_eq_true rfl) rfl (c_firstRest hG _) ?_
            exact y_ireturn dX8_rests_80 rfl (QC_of (A' := A) (by simp [f_rests, g, g2, ix_nI (show a < 2 ^ 31 by omega), ix_nI (show b < 2 ^ 31 by omega), rsA] <;> simp_all) (CR_scr hC (fun z _ hs => restM_o (by unfold scr at hs; omega)) (SRH_eq hSR (fun z h1 h2 => restM_o (by omega))) rfl) ⟨fun z hz => restM_o (by omega), rfl⟩)
          · refine z_aload_n dX8_rests_69 rfl ?_
            refine y_callV0x (M' := M_X8_countOfRests) dX8_rests_70 lm_X8_249 cv_X8_countOfRests rfl (Nat.le_of_ble_eq_true rfl) (Nat.le_of_ble_eq_true rfl) rfl (c_countOfRests hG _) ?_
            refine z_goto (tgt := 80) dX8_rests_73 (by decide) ?_
            exact y_ireturn dX8_rests_80 rfl (QC_of (A' := A) (by simp [f_rests, g, g2, ix_nI (show a < 2 ^ 31 by omega), ix_nI (show b < 2 ^ 31 by omega), rsA] <;> simp_all) (CR_scr hC (fun z _ hs => restM_o (by unfold scr at hs; omega)) (SRH_eq hSR (fun z h1 h2 => restM_o (by omega))) rfl) ⟨fun z hz => restM_o (by omega), rfl⟩)
        · refine z_iload_n dX8_rests_33 rfl ?_
          refine z_iconst (v := nI 1) dX8_rests_34 rfl ?_
          refine z_icmp_eq (tgt := 41) dX8_rests_35 (by decide) (fun hc35 => ?_) (fun hc35 => ?_)
          · refine z_aload_n dX8_rests_41 rfl ?_
            refine y_getR dX8_rests_42 lf_X8_74 rfl rfl ?_
            refine z_aload_n dX8_rests_45 rfl ?_
            refine y_getR dX8_rests_46 lf_X8_28 rfl rfl ?_
            refine z_iload_n dX8_rests_49 rfl ?_
            refine y_callV2x (M' := M_X2_lookAt) dX8_rests_50 lm_X8_245 cv_X2_lookAt rfl (Nat.le_of_ble_eq_true rfl) (Nat.le_of_ble_eq_true rfl) rfl (c_lookAt56 hp hP hS hV ha _) ?_
            refine z_aload_n dX8_rests_53 rfl ?_
            refine y_getR dX8_rests_54 lf_X8_78 rfl rfl ?_
            refine z_aload_n dX8_rests_57 rfl ?_
            refine y_getR dX8_rests_58 lf_X8_28 rfl rfl ?_
            refine z_iload_n dX8_rests_61 rfl ?_
            have hP2 := PFc_eq hP (fun z h1 h2 => gol_o (p := aP A) (cut := (aN A).2) (b := a) (pl := (aN A).1 a) (g := 56) (i := 4) (mu := mu) (a := z) (by omega) (by omega))
            have hS2 : SFc (aP A) (aN A).1 (aN A).2 10 (gol (aP A) (aN A).2 a ((aN A).1 a) 56 4 mu) := SFc_eq hS (gol_o (by decide) (by decide)) (gol_o (by decide) (by decide))
            refine y_callV2x (M' := M_X2_lookAt) dX8_rests_62 lm_X8_245 cv_X2_lookAt rfl (Nat.le_of_ble_eq_true rfl) (Nat.le_of_ble_eq_true rfl) rfl (c_lookAt59 hp hP2 hS2 hV hb _) ?_
            rw [show gol (aP A) (aN A).2 b ((aN A).1 b) 59 4 (gol (aP A) (aN A).2 a ((aN A).1 a) 56 4 mu) = restM A a b mu from rfl]
            have hG := restM_G hA ha hb (mu := mu)
            refine z_iload_n dX8_rests_65 rfl ?_
            refine z_if_ne (tgt := 76) dX8_rests_66 (by decide) (fun hc66 => ?_) (fun hc66 => ?_)
            · refine z_aload_n dX8_rests_76 rfl ?_
              refine y_callV0x (M' := M_X8_firstRest) dX8_rests_77 lm_X8_252 cv_X8_firstRest rfl (Nat.le_of_ble_eq_true rfl) (Nat.le_of_ble_eq_true rfl) rfl (c_firstRest hG _) ?_
              exact y_ireturn dX8_rests_80 rfl (QC_of (A' := A) (by simp [f_rests, g, g2, ix_nI (show a < 2 ^ 31 by omega), ix_nI (show b < 2 ^ 31 by omega), rsA] <;> simp_all) (CR_scr hC (fun z _ hs => restM_o (by unfold scr at hs; omega)) (SRH_eq hSR (fun z h1 h2 => restM_o (by omega))) rfl) ⟨fun z hz => restM_o (by omega), rfl⟩)
            · refine z_aload_n dX8_rests_69 rfl ?_
              refine y_callV0x (M' := M_X8_countOfRests) dX8_rests_70 lm_X8_249 cv_X8_countOfRests rfl (Nat.le_of_ble_eq_true rfl) (Nat.le_of_ble_eq_true rfl) rfl (c_countOfRests hG _) ?_
              refine z_goto (tgt := 80) dX8_rests_73 (by decide) ?_
              exact y_ireturn dX8_rests_80 rfl (QC_of (A' := A) (by simp [f_rests, g, g2, ix_nI (show a < 2 ^ 31 by omega), ix_nI (show b < 2 ^ 31 by omega), rsA] <;> simp_all) (CR_scr hC (fun z _ hs => restM_o (by unfold scr at hs; omega)) (SRH_eq hSR (fun z h1 h2 => restM_o (by omega))) rfl) ⟨fun z hz => restM_o (by omega), rfl⟩)
          · refine z_bipush (v := -2) dX8_rests_38 rfl ?_
            exact y_ireturn dX8_rests_40 rfl (QC_rf hC (by simp [f_rests, g, g2, hc30, hc35]))
    · have g : inr y (pb (aP A)) = false := hc19
      refine z_iconst (v := -1) dX8_rests_22 rfl ?_
      exact y_ireturn dX8_rests_23 rfl (QC_rf hC (by simp [f_rests, g]))
set_option maxRecDepth 4000 in
theorem k_strays {X : zX} {mu : zmu} {nu : znu} {A : AS} (hA : AV A) (hC : CR A mu nu) (x y : Int32) (u : Bool) (d : Nat) : zJ X M_X8_strays (d + 10) 0 0 0 [.ref 0, .int x, .int y, .int (b2i u)] [] 86 (zEE (mu) (nu)) (zlift (QC (f_strays A x y u) mu nu)) := by
  obtain ⟨hP, hS, hR, hK, hE, hT, hSR, hD⟩ := id hC
  have hp := hA.1
  have hV := hA.2.1
  have h20 := hA.n
  have h5 := hA.b
  refine z_aload_n dX8_strays_0 rfl ?_
  refine y_getR dX8_strays_1 lf_X8_19 rfl rfl ?_
  refine z_iload_n dX8_strays_4 rfl ?_
  refine y_callV1x (M' := M_X3_hasBoy) dX8_strays_5 lm_X8_139 cv_X3_hasBoy rfl (Nat.le_of_ble_eq_true rfl) (Nat.le_of_ble_eq_true rfl) rfl (c_hasBoy hp hP x _) ?_
  refine zb_if_ne (tgt := 13) dX8_strays_8 (by decide) (fun hc8 => ?_) (fun hc8 => ?_)
  · have g : inr x (pb (aP A)) = true := hc8
    obtain ⟨b, hb, rfl⟩ := inr_t (show inr x (pb (aP A)) = true from g) (by omega)
    refine z_iload_n dX8_strays_13 rfl ?_
    refine z_iconst (v := nI 1) dX8_strays_14 rfl ?_
    refine z_icmp_lt (tgt := 23) dX8_strays_15 (by decide) (fun hc15 => ?_) (fun hc15 => ?_)
    · have g2 : in1 y 5 = false := decide_eq_false (fun e => absurd hc15 (Int32.not_lt.mpr e.1))
      refine z_bipush (v := -2) dX8_strays_23 rfl ?_
      exact y_ireturn dX8_strays_25 rfl (QC_rf hC (by simp [f_strays, g, g2]))
    · refine z_iload_n dX8_strays_18 rfl ?_
      refine z_iconst (v := nI 5) dX8_strays_19 rfl ?_
      refine z_icmp_le (tgt := 26) dX8_strays_20 (by decide) (fun hc20 => ?_) (fun hc20 => ?_)
      · have g2 : in1 y 5 = true := decide_eq_true ⟨Int32.not_lt.mp hc15, hc20⟩
        obtain ⟨w, hw1, hw5, rfl⟩ := in1_t g2 (by decide)
        have hw4 : 4 ^ w ≤ 4 ^ 5 := Nat.pow_le_pow_right (by decide) hw5
        have hwk := wkh_le (aP A) (aN A).2 b w ((aN A).1 b)
        have hw0 : 0 < 4 ^ w := Nat.pow_pos (by decide)
        refine z_aload_n dX8_strays_26 rfl ?_
        refine y_getR dX8_strays_27 lf_X8_28 rfl rfl ?_
        refine z_iload_n dX8_strays_30 rfl ?_
        refine z_aload_n dX8_strays_31 rfl ?_
        refine y_getR dX8_strays_32 lf_X8_28 rfl rfl ?_
        refine y_getR dX8_strays_35 lf_X8_142 rfl rfl ?_
        refine z_iload_n dX8_strays_38 rfl ?_
        refine y_ialde dX8_strays_39 rfl (by decide) (by omega) (hS.1 b hb) ?_
        refine z_iload_n dX8_strays_40 rfl ?_
        refine y_callS4x (M' := M_X8_walksHome) dX8_strays_41 lm_X8_255 cs_X8_walksHome (Nat.le_of_ble_eq_true rfl) (Nat.le_of_ble_eq_true rfl) rfl ((by have q := c_walksHome (X := X) (nu := nu) hp hP hS hV hb (d + 6 - w) w hw5 ((aN A).1 b) (hV.1 b hb); rw [show w + (d + 6 - w) + 3 = d + 9 by omega] at q; exact q)) ?_
        refine z_getP dX8_strays_44 lst_X8_259 ?_
        refine z_iload_n dX8_strays_47 rfl ?_
        refine zl_pow dX8_strays_48 (by omega) ?_
        refine z_iload_n dX8_strays_49 rfl ?_
        refine y_callS3x (M' := M_X8_told) dX8_strays_50 lm_X8_233 cs_X8_told (Nat.le_of_ble_eq_true rfl) (Nat.le_of_ble_eq_true rfl) rfl (c_told (by omega) (by omega) hw0 u _) ?_
        exact y_ireturn dX8_strays_53 rfl (QC_rf hC (by simp [f_strays, g, g2, ix_nI (show b < 2 ^ 31 by omega), ix_nI (show w < 2 ^ 31 by omega)]))
      · have g2 : in1 y 5 = false := decide_eq_false (fun e => hc20 e.2)
        refine z_bipush (v := -2) dX8_strays_23 rfl ?_
        exact y_ireturn dX8_strays_25 rfl (QC_rf hC (by simp [f_strays, g, g2]))
  · have g : inr x (pb (aP A)) = false := hc8
    refine z_iconst (v := -1) dX8_strays_11 rfl ?_
    exact y_ireturn dX8_strays_12 rfl (QC_rf hC (by simp [f_strays, g]))
theorem CR_seed {A : AS} {mu : zmu} {nu nu1 : znu} {v : Int64} (h : CR A mu nu) (e : nu1 0 = v) : CR (setD A v) mu nu1 := ⟨h.1, h.2.1, h.2.2.1, h.2.2.2.1, h.2.2.2.2.1, h.2.2.2.2.2.1, h.2.2.2.2.2.2.1, e⟩
def sd1 (v : Int64) : Int64 := v * 6364136223846793005 + 1442695040888963407
def sdx (v : Int64) : Nat := (v.toUInt64 >>> 33).toNat % 40
theorem sdx_eq (v : Int64) : ((v.toUInt64 >>> (Int64.toUInt64 ((33 : Int32).toInt64) &&& Int64.toUInt64 63)).toInt64) = nL ((v.toUInt64 >>> 33).toNat) ∧ (v.toUInt64 >>> 33).toNat < 2 ^ 31 := by
  have e : (Int64.toUInt64 ((33 : Int32).toInt64) &&& Int64.toUInt64 63) = 33 := by decide
  rw [e]
  refine ⟨?_, ?_⟩
  · apply Int64.toBitVec_inj.mp
    show (v.toUInt64 >>> 33).toBitVec = BitVec.ofNat 64 (v.toUInt64 >>> 33).toBitVec.toNat
    rw [BitVec.ofNat_toNat, BitVec.setWidth_eq]
  · rw [UInt64.toNat_shiftRight]
    have := v.toUInt64.toNat_lt
    rw [show (33 : UInt64).toNat % 64 = 33 by decide, Nat.shiftRight_eq_div_pow]
    omega
/-- nights: the sum, the seed, the scene -/
def ngt (p : PT) (s0 : SC) (v0 : Int64) : Nat → Nat × Int64 × SC
  | 0 => (0, v0, s0)
  | n + 1 => ((ngt p s0 v0 n).1 + awy p (hpn p (ngt p s0 v0 n).2.2 (sdx (sd1 (ngt p s0 v0 n).2.1))).1, sd1 (ngt p s0 v0 n).2.1, hpn p (ngt p s0 v0 n).2.2 (sdx (sd1 (ngt p s0 v0 n).2.1)))
def f_nights (A : AS) (x : Int32) : Int32 × AS := if in1 x 30 = true then (nI (ngt (aP A) (aN A) (aD A) (ix x)).1, setD A (ngt (aP A) (aN A) (aD A) (ix x)).2.1) else (-2, A)
theorem hpn_V {p : PT} (hp : PV p) {s : SC} (h : SVs p s) (x : Nat) : SVs p (hpn p s x) := by
  unfold hpn; split <;> exact dos_V hp h _ _ _
theorem ngt_V {p : PT} (hp : PV p) {s : SC} (h : SVs p s) (v : Int64) : ∀ n, SVs p (ngt p s v n).2.2
  | 0 => h
  | n + 1 => hpn_V hp (ngt_V hp h v n) _
theorem h1_X8 : ∀ i, i ≠ 12 → ([3, 5, 12, 14, 16, 46, 47, 48, 52, 54, 58, 61, 1] : List Nat)[i]? ≠ some 1 := by
  have h : ∀ i, i < 13 → i ≠ 12 → ([3, 5, 12, 14, 16, 46, 47, 48, 52, 54, 58, 61, 1] : List Nat)[i]? ≠ some 1 := by decide
  intro i hi e
  exact h i (List.getElem?_eq_some_iff.mp e).1 hi e
theorem va_up0 {nu : znu} {v : Int64} : va_up nu 0 v 66 = nu 66 := va_up_ne nu v (by decide)
set_option maxRecDepth 4000 in
theorem k_seed {X : zX} {mu : zmu} {nu : znu} {A : AS} (hA : AV A) (hC : CR A mu nu) (v : Int64) (d : Nat) : zJ X M_X8_seed (d + 10) 0 0 0 [.ref 0, .long v, zu, zu, zu] [] 86 (zEE (mu) (nu)) (zlift (fun r mu1 nu1 => r = some (.long (aD A)) ∧ CR (setD A v) mu1 nu1 ∧ FrC mu nu mu1 nu1)) := by
  obtain ⟨hP, hS, hR, hK, hE, hT, hSR, hD⟩ := id hC
  have hp := hA.1
  have hV := hA.2.1
  have h20 := hA.n
  have h5 := hA.b
  refine z_aload_n dX8_seed_0 rfl ?_
  refine y_getJ dX8_seed_1 lf_X8_262 rfl rfl ?_
  refine z_lstore3 dX8_seed_4 rfl ?_
  refine z_aload_n dX8_seed_5 rfl ?_
  refine z_lload_n dX8_seed_6 rfl ?_
  refine y_putJ dX8_seed_7 lp_X8_262 rfl rfl h1_X8 ?_
  refine z_lload_n dX8_seed_10 rfl ?_
  exact y_lreturn dX8_seed_11 rfl ⟨by rw [hD], CR_seed hC (va_up_self _ _ _), ⟨fun _ _ => rfl, va_up0⟩⟩
set_option maxRecDepth 4000 in
theorem k_nights_l {X : zX} {mu : zmu} {nu : znu} {A : AS} (hA : AV A) (hC : CR A mu nu) {m : Nat} (hm : m ≤ 30) (d : Nat) : ∀ n i mu1 nu1, i + n = m → only 12 mu mu1 → SFs (aP A) (ngt (aP A) (aN A) (aD A) i).2.2 12 mu1 → nu1 0 = (ngt (aP A) (aN A) (aD A) i).2.1 → nu1 66 = nu 66 → (ngt (aP A) (aN A) (aD A) i).1 ≤ 5 * i → zJ X M_X8_nights (d + 10) 0 0 29 [.ref 0, .int (nI m), .int (nI (ngt (aP A) (aN A) (aD A) i).1), .int (nI i)] [] 86 (zEE (mu1) (nu1)) (zlift (QC (nI (ngt (aP A) (aN A) (aD A) m).1, setD A (ngt (aP A) (aN A) (aD A) m).2.1) mu nu)) := by
  intro n
  induction n with
  | zero =>
    intro i mu1 nu1 hi
    obtain ⟨hP, hS, hR, hK, hE, hT, hSR, hD⟩ := id hC
    have hp := hA.1
    have hV := hA.2.1
    have h20 := hA.n
    have h5 := hA.b
    intro ho hs hn0 hn66 hsum
    obtain rfl : i = m := by omega
    refine z_iload_n dX8_nights_29 rfl ?_
    refine z_iload_n dX8_nights_30 rfl ?_
    refine zn_icmp_ge (tgt := 82) dX8_nights_31 (by decide) (by omega) (by omega) (fun hc31 => ?_) (fun hc31 => by omega)
    refine z_iload_n dX8_nights_82 rfl ?_
    exact y_ireturn dX8_nights_83 rfl (QC_of (A' := setD A (ngt (aP A) (aN A) (aD A) i).2.1) rfl (CR_seed (CR_12 hC ho) hn0) ⟨(FrC_12 (nu := nu) ho).1, hn66⟩)
  | succ n ih =>
    intro i mu1 nu1 hi
    obtain ⟨hP, hS, hR, hK, hE, hT, hSR, hD⟩ := id hC
    have hp := hA.1
    have hV := hA.2.1
    have h20 := hA.n
    have h5 := hA.b
    intro ho hs hn0 hn66 hsum
    have hv := ngt_V hp hV (aD A) i
    have hx := sdx_eq (sd1 (ngt (aP A) (aN A) (aD A) i).2.1)
    have hP1 := only_P hP ho (by decide)
    have hm40 := Nat.mod_lt ((sd1 (ngt (aP A) (aN A) (aD A) i).2.1).toUInt64 >>> 33).toNat (show 0 < 40 by decide)
    refine z_iload_n dX8_nights_29 rfl ?_
    refine z_iload_n dX8_nights_30 rfl ?_
    refine zn_icmp_ge (tgt := 82) dX8_nights_31 (by decide) (by omega) (by omega) (fun hc31 => by omega) (fun hc31 => ?_)
    refine z_aload_n dX8_nights_34 rfl ?_
    refine z_aload_n dX8_nights_35 rfl ?_
    refine y_getJ dX8_nights_36 lf_X8_262 rfl rfl ?_
    rw [hn0]
    refine z_ldc2 dX8_nights_39 lk_X8_266 ?_
    refine z_lmul dX8_nights_42 ?_
    refine z_ldc2 dX8_nights_43 lk_X8_268 ?_
    refine z_ladd dX8_nights_46 ?_
    refine y_putJ dX8_nights_47 lp_X8_262 rfl rfl h1_X8 ?_
    rw [show (ngt (aP A) (aN A) (aD A) i).2.1 * 6364136223846793005 + 1442695040888963407 = sd1 (ngt (aP A) (aN A) (aD A) i).2.1 from rfl]
    refine z_aload_n dX8_nights_50 rfl ?_
    refine z_aload_n dX8_nights_51 rfl ?_
    refine y_getJ dX8_nights_52 lf_X8_262 rfl rfl ?_
    rw [va_up_self]
    refine z_bipush (v := 33) dX8_nights_55 rfl ?_
    refine z_lushr dX8_nights_57 ?_
    rw [hx.1]
    refine z_ldc2 (v := nL 40) dX8_nights_58 lk_X8_270 ?_
    refine zl_lrem dX8_nights_61 (Nat.lt_trans hx.2 (by decide)) (by decide) (by decide) ?_
    refine zl_l2i dX8_nights_62 (by omega) ?_
    rw [show ((sd1 (ngt (aP A) (aN A) (aD A) i).2.1).toUInt64 >>> 33).toNat % 40 = sdx (sd1 (ngt (aP A) (aN A) (aD A) i).2.1) from rfl]
    refine y_callV1 (M' := M_X8_happens) dX8_nights_63 lm_X8_272 cv_X8_happens rfl (Nat.le_of_ble_eq_true rfl) (Nat.le_of_ble_eq_true rfl) rfl (q_happens hp hP1 hs hv (x := sdx (sd1 (ngt (aP A) (aN A) (aD A) i).2.1)) hm40 _) (fun r mu2 nu2 hq => ?_)
    obtain ⟨rfl, rfl, hS2, ho2⟩ := hq
    have hP2 := only_P hP1 ho2 (by decide)
    have hv2 := hpn_V hp hv (sdx (sd1 (ngt (aP A) (aN A) (aD A) i).2.1))
    refine z_iload_n dX8_nights_66 rfl ?_
    refine z_aload_n dX8_nights_67 rfl ?_
    refine y_getR dX8_nights_68 lf_X8_32 rfl rfl ?_
    refine y_callV0x (M' := M_X4_countNotHome) dX8_nights_71 lm_X8_275 cv_X4_countNotHome rfl (Nat.le_of_ble_eq_true rfl) (Nat.le_of_ble_eq_true rfl) rfl (c_countNotHome hp hP2 sAt12 hS2 hv2 _) ?_
    refine zn_iadd dX8_nights_74 ?_
    refine z_istore2 dX8_nights_75 rfl ?_
    refine zn_iinc3 dX8_nights_76 rfl ?_
    refine z_goto (tgt := 29) dX8_nights_79 (by decide) ?_
    refine ih (i + 1) mu2 (va_up nu1 0 (sd1 (ngt (aP A) (aN A) (aD A) i).2.1)) (by omega) (only_tr ho ho2) hS2 (va_up_self _ _ _) (va_up0.trans hn66) ?_
    have : awy (aP A) (hpn (aP A) (ngt (aP A) (aN A) (aD A) i).2.2 (sdx (sd1 (ngt (aP A) (aN A) (aD A) i).2.1))).1 ≤ 5 := by unfold awy; omega
    show (ngt (aP A) (aN A) (aD A) i).1 + awy (aP A) (hpn (aP A) (ngt (aP A) (aN A) (aD A) i).2.2 (sdx (sd1 (ngt (aP A) (aN A) (aD A) i).2.1))).1 ≤ 5 * (i + 1)
    omega
set_option maxRecDepth 4000 in
theorem k_nights {X : zX} {mu : zmu} {nu : znu} {A : AS} (hA : AV A) (hC : CR A mu nu) (x : Int32) (d : Nat) : zJ X M_X8_nights (d + 10) 0 0 0 [.ref 0, .int x, zu, zu] [] 86 (zEE (mu) (nu)) (zlift (QC (f_nights A x) mu nu)) := by
  obtain ⟨hP, hS, hR, hK, hE, hT, hSR, hD⟩ := id hC
  have hp := hA.1
  have hV := hA.2.1
  have h20 := hA.n
  have h5 := hA.b
  refine z_iload_n dX8_nights_0 rfl ?_
  refine z_iconst (v := nI 1) dX8_nights_1 rfl ?_
  refine z_icmp_lt (tgt := 11) dX8_nights_2 (by decide) (fun hc2 => ?_) (fun hc2 => ?_)
  · have g2 : in1 x 30 = false := decide_eq_false (fun e => absurd hc2 (Int32.not_lt.mpr e.1))
    refine z_bipush (v := -2) dX8_nights_11 rfl ?_
    exact y_ireturn dX8_nights_13 rfl (QC_rf hC (by simp [f_nights, g2]))
  · refine z_iload_n dX8_nights_5 rfl ?_
    refine z_bipush (v := nI 30) dX8_nights_6 rfl ?_
    refine z_icmp_le (tgt := 14) dX8_nights_8 (by decide) (fun hc8 => ?_) (fun hc8 => ?_)
    · have g2 : in1 x 30 = true := decide_eq_true ⟨Int32.not_lt.mp hc2, hc8⟩
      obtain ⟨w, hw1, hw5, rfl⟩ := in1_t g2 (by decide)
      refine z_aload_n dX8_nights_14 rfl ?_
      refine y_getR dX8_nights_15 lf_X8_32 rfl rfl ?_
      refine z_aload_n dX8_nights_18 rfl ?_
      refine y_getR dX8_nights_19 lf_X8_28 rfl rfl ?_
      refine y_callV1x (M' := M_X4_become) dX8_nights_22 lm_X8_221 cv_X4_become rfl (Nat.le_of_ble_eq_true rfl) (Nat.le_of_ble_eq_true rfl) rfl (c_become2 sAt12 sAt10 _) ?_
      refine z_iconst (v := nI 0) dX8_nights_25 rfl ?_
      refine z_istore2 dX8_nights_26 rfl ?_
      refine z_iconst (v := nI 0) dX8_nights_27 rfl ?_
      refine z_istore3 dX8_nights_28 rfl ?_
      refine zJ_mono (k_nights_l hA hC (m := w) hw5 d w 0 (bec mu 12 10) nu (by omega) bec_only (SFs_bec hp hS sAt12 sAt10 (by decide)) hD rfl (Nat.zero_le _)) (fun r mu1 nu1 hq => ?_)
      have ef : f_nights A (nI w) = (nI (ngt (aP A) (aN A) (aD A) w).1, setD A (ngt (aP A) (aN A) (aD A) w).2.1) := by simp [f_nights, g2, ix_nI (show w < 2 ^ 31 by omega)]
      rw [ef]; exact hq
    · have g2 : in1 x 30 = false := decide_eq_false (fun e => hc8 e.2)
      refine z_bipush (v := -2) dX8_nights_11 rfl ?_
      exact y_ireturn dX8_nights_13 rfl (QC_rf hC (by simp [f_nights, g2]))
def kpS (A : AS) (k : Nat) : Nat → Option SC := fun i => if i = k then some (aN A) else aK A i
def f_keep (A : AS) (x : Int32) : Int32 × AS := if inr x 2 = true then (nI (awy (aP A) (aN A).1), setK A (kpS A (ix x))) else (-1, A)
def f_goOn (A : AS) (x : Int32) : Int32 × AS := if inr x 2 = true then (match aK A (ix x) with
    | none => (-3, A)
    | some s => (nI (awy (aP A) s.1), setA (setN A s) (0, (aA A).2))) else (-1, A)
def kepM (mu : zmu) (k : Nat) : zmu := u2 (bec mu (62 + 2 * k) 10) 45 k 1
theorem kepM_o {mu : zmu} {k x : Nat} (hk : k < 2) (h : x < 62 ∨ 66 ≤ x) (h45 : x ≠ 45) : kepM mu k x = mu x := by unfold kepM; rw [u2_rowa h45, bec_o (by omega) (by omega)]
theorem CR_keep {A : AS} {mu : zmu} {nu : znu} {k : Nat} (hA : AV A) (h : CR A mu nu) (hk : k < 2) : CR (setK A (kpS A k)) (kepM mu k) nu := by
  have e : ∀ x, (x < 62 ∨ 66 ≤ x) → x ≠ 45 → kepM mu k x = mu x := fun x h1 h2 => kepM_o hk h1 h2
  obtain ⟨h1, h2, h3, h4, h5, h6, h7, h8⟩ := h
  refine ⟨PFc_eq h1 (fun x g1 g2 => e x (by omega) (by omega)), SFc_eq h2 (e 10 (by decide) (by decide)) (e 11 (by decide) (by decide)), RG_eq h3 (fun x g1 g2 => e x (by omega) (by omega)), ?_, SEc_eq h5 (fun x g1 g2 => e x (by omega) (by omega)), TFc_eq h6 (e 1 (by decide) (by decide)) (e 2 (by decide) (by decide)), SRH_eq h7 (fun x g1 g2 => e x (by omega) (by omega)), h8⟩
  intro i hi
  show match kpS A k i with
    | none => kepM mu k 45 i = 0
    | some s => kepM mu k 45 i = 1 ∧ SFs (aP A) s (62 + 2 * i) (kepM mu k)
  have e45 : ∀ x, x ≠ 45 → kepM mu k x = bec mu (62 + 2 * k) 10 x := fun x hx => by unfold kepM; rw [u2_rowa hx]
  by_cases hik : i = k
  · have ek : kpS A k i = some (aN A) := by simp [kpS, hik]
    rw [ek, hik]
    exact ⟨by unfold kepM; rw [u2_s], SFc_eq (SFs_bec hA.1 h2 (sAt_slot k hk) sAt10 (by omega)) (e45 _ (by omega)) (e45 _ (by omega))⟩
  · have ek : kpS A k i = aK A i := by simp [kpS, hik]
    rw [ek]
    have g := h4 i hi
    have e2 : kepM mu k 45 i = mu 45 i := by unfold kepM; rw [u2_k hik, bec_o (by omega) (by omega)]
    cases hka : aK A i with
    | none => rw [hka] at g; simp only at g ⊢; rw [e2]; exact g
    | some s =>
      rw [hka] at g; simp only at g ⊢
      exact ⟨by rw [e2]; exact g.1, SFc_eq (SFs_o g.2 (bec_only (a := 62 + 2 * k) (b := 10)) (by omega) (by omega) (by omega)) (e45 _ (by omega)) (e45 _ (by omega))⟩
def gonM (mu : zmu) (k : Nat) : zmu := u2 (bec mu 10 (62 + 2 * k)) 14 2 (nI 0)
theorem CR_goOn {A : AS} {mu : zmu} {nu : znu} {k : Nat} {s : SC} (hA : AV A) (h : CR A mu nu) (hk : k < 2) (hs : SFs (aP A) s (62 + 2 * k) mu) : CR (setA (setN A s) (0, (aA A).2)) (gonM mu k) nu ∧ ∀ x, 15 ≤ x → gonM mu k x = mu x := by
  have e : ∀ x, (x < 10 ∨ 15 ≤ x) → gonM mu k x = mu x := fun x h1 => by unfold gonM; rw [u2_rowa (by omega), bec_o (by omega) (by omega)]
  obtain ⟨h1, h2, h3, h4, h5, h6, h7, h8⟩ := h
  have e1 : ∀ x, x ≠ 14 → gonM mu k x = bec mu 10 (62 + 2 * k) x := fun x hx => by unfold gonM; rw [u2_rowa hx]
  refine ⟨⟨PFc_eq h1 (fun x g1 g2 => e x (by omega)), SFc_eq (SFs_bec hA.1 hs sAt10 (sAt_slot k hk) (by omega)) (e1 10 (by decide)) (e1 11 (by decide)), ?_, KP_eq h4 (fun x g => e x (by omega)), SEc_eq h5 (fun x g1 g2 => e x (by omega)), TFc_eq h6 (e 1 (by decide)) (e 2 (by decide)), SRH_eq h7 (fun x g1 g2 => e x (by omega)), h8⟩, fun x hx => e x (by omega)⟩
  obtain ⟨nx, r1, r2, r3, r4⟩ := h3
  refine ⟨nx, r1, ?_, ?_, fun i hi => absurd hi (Nat.not_lt_zero _)⟩
  · unfold gonM; rw [u2_k (by decide), bec_o (by decide) (by decide)]; exact r2
  · unfold gonM; rw [u2_s]; rfl
set_option maxRecDepth 4000 in
theorem k_keep {X : zX} {mu : zmu} {nu : znu} {A : AS} (hA : AV A) (hC : CR A mu nu) (x : Int32) (d : Nat) : zJ X M_X8_keep (d + 10) 0 0 0 [.ref 0, .int x] [] 86 (zEE (mu) (nu)) (zlift (QC (f_keep A x) mu nu)) := by
  obtain ⟨hP, hS, hR, hK, hE, hT, hSR, hD⟩ := id hC
  have hp := hA.1
  have hV := hA.2.1
  have h20 := hA.n
  have h5 := hA.b
  refine z_iload_n dX8_keep_0 rfl ?_
  refine z_if_lt (tgt := 9) dX8_keep_1 (by decide) (fun hc1 => ?_) (fun hc1 => ?_)
  · refine z_iconst (v := -1) dX8_keep_9 rfl ?_
    exact y_ireturn dX8_keep_10 rfl (QC_rf hC (by simp [f_keep, inr_neg (n := 2) hc1]))
  · refine z_iload_n dX8_keep_4 rfl ?_
    refine z_iconst (v := nI 2) dX8_keep_5 rfl ?_
    refine z_icmp_lt (tgt := 11) dX8_keep_6 (by decide) (fun hc6 => ?_) (fun hc6 => ?_)
    · have g := inr_in hc1 hc6
      obtain ⟨b, hb, rfl⟩ := inr_t g (by decide)
      refine z_aload_n dX8_keep_11 rfl ?_
      refine y_getR dX8_keep_12 lf_X8_42 rfl rfl ?_
      refine z_iload_n dX8_keep_15 rfl ?_
      refine y_aald dX8_keep_16 rfl (by decide) hb (slot_r b hb) (by omega) ?_
      refine z_aload_n dX8_keep_17 rfl ?_
      refine y_getR dX8_keep_18 lf_X8_28 rfl rfl ?_
      refine y_callV1x (M' := M_X4_become) dX8_keep_21 lm_X8_221 cv_X4_become (sAt_slot b hb).1 (Nat.le_of_ble_eq_true rfl) (Nat.le_of_ble_eq_true rfl) rfl (c_become2 (sAt_slot b hb) sAt10 _) ?_
      refine z_aload_n dX8_keep_24 rfl ?_
      refine y_getR dX8_keep_25 lf_X8_46 rfl rfl ?_
      refine z_iload_n dX8_keep_28 rfl ?_
      refine z_iconst (v := nI 1) dX8_keep_29 rfl ?_
      refine y_zast dX8_keep_30 rfl (by decide) hb (by first | exact Or.inl rfl | exact Or.inr rfl) ?_
      have hC2 := CR_keep hA hC hb
      have ek : u2 (bec mu (62 + 2 * b) 10) 45 b (nI 1) = kepM mu b := rfl
      rw [ek]
      refine z_aload_n dX8_keep_31 rfl ?_
      refine y_getR dX8_keep_32 lf_X8_28 rfl rfl ?_
      refine y_callV0x (M' := M_X4_countNotHome) dX8_keep_35 lm_X8_275 cv_X4_countNotHome rfl (Nat.le_of_ble_eq_true rfl) (Nat.le_of_ble_eq_true rfl) rfl (c_countNotHome hp hC2.1 sAt10 hC2.2.1 hV _) ?_
      exact y_ireturn dX8_keep_38 rfl (QC_of (A' := setK A (kpS A b)) (by simp [f_keep, g, ix_nI (show b < 2 ^ 31 by omega)]; rfl) hC2 ⟨fun z hz => kepM_o hb (by omega) (by omega), rfl⟩)
    · refine z_iconst (v := -1) dX8_keep_9 rfl ?_
      exact y_ireturn dX8_keep_10 rfl (QC_rf hC (by simp [f_keep, inr_ge hc6]))
set_option maxRecDepth 4000 in
theorem k_goOn {X : zX} {mu : zmu} {nu : znu} {A : AS} (hA : AV A) (hC : CR A mu nu) (x : Int32) (d : Nat) : zJ X M_X8_goOn (d + 10) 0 0 0 [.ref 0, .int x] [] 86 (zEE (mu) (nu)) (zlift (QC (f_goOn A x) mu nu)) := by
  obtain ⟨hP, hS, hR, hK, hE, hT, hSR, hD⟩ := id hC
  have hp := hA.1
  have hV := hA.2.1
  have h20 := hA.n
  have h5 := hA.b
  refine z_iload_n dX8_goOn_0 rfl ?_
  refine z_if_lt (tgt := 9) dX8_goOn_1 (by decide) (fun hc1 => ?_) (fun hc1 => ?_)
  · refine z_iconst (v := -1) dX8_goOn_9 rfl ?_
    exact y_ireturn dX8_goOn_10 rfl (QC_rf hC (by simp [f_goOn, inr_neg (n := 2) hc1]))
  · refine z_iload_n dX8_goOn_4 rfl ?_
    refine z_iconst (v := nI 2) dX8_goOn_5 rfl ?_
    refine z_icmp_lt (tgt := 11) dX8_goOn_6 (by decide) (fun hc6 => ?_) (fun hc6 => ?_)
    · have g := inr_in hc1 hc6
      obtain ⟨b, hb, rfl⟩ := inr_t g (by decide)
      have hKb := hK b hb
      refine z_aload_n dX8_goOn_11 rfl ?_
      refine y_getR dX8_goOn_12 lf_X8_46 rfl rfl ?_
      refine z_iload_n dX8_goOn_15 rfl ?_
      refine y_zald dX8_goOn_16 rfl (by decide) hb ?_
      refine z_if_ne (tgt := 23) dX8_goOn_17 (by decide) (fun hc17 => ?_) (fun hc17 => ?_)
      · obtain ⟨s, hks⟩ : ∃ s, aK A b = some s := by
          cases hka : aK A b with
          | none => rw [hka] at hKb; exact absurd hKb hc17
          | some s => exact ⟨s, rfl⟩
        rw [hks] at hKb
        have hvs := hA.2.2.2.1 b hb s hks
        obtain ⟨hC2, hfr⟩ := CR_goOn hA hC hb hKb.2
        refine z_aload_n dX8_goOn_23 rfl ?_
        refine y_getR dX8_goOn_24 lf_X8_28 rfl rfl ?_
        refine z_aload_n dX8_goOn_27 rfl ?_
        refine y_getR dX8_goOn_28 lf_X8_42 rfl rfl ?_
        refine z_iload_n dX8_goOn_31 rfl ?_
        refine y_aald dX8_goOn_32 rfl (by decide) hb (slot_r b hb) (by omega) ?_
        refine y_callV1x (M' := M_X4_become) dX8_goOn_33 lm_X8_221 cv_X4_become rfl (Nat.le_of_ble_eq_true rfl) (Nat.le_of_ble_eq_true rfl) rfl (c_become2 sAt10 (sAt_slot b hb) _) ?_
        refine z_aload_n dX8_goOn_36 rfl ?_
        refine y_getR dX8_goOn_37 lf_X8_38 rfl rfl ?_
        refine y_callV0x (M' := M_X0_forgetAll) dX8_goOn_40 lm_X8_100 cv_X0_forgetAll rfl (Nat.le_of_ble_eq_true rfl) (Nat.le_of_ble_eq_true rfl) rfl (c_forgetAll _) ?_
        have ek : u2 (bec mu 10 (62 + 2 * b)) 14 2 (nI 0) = gonM mu b := rfl
        rw [ek]
        refine z_aload_n dX8_goOn_43 rfl ?_
        refine y_getR dX8_goOn_44 lf_X8_28 rfl rfl ?_
        refine y_callV0x (M' := M_X4_countNotHome) dX8_goOn_47 lm_X8_275 cv_X4_countNotHome rfl (Nat.le_of_ble_eq_true rfl) (Nat.le_of_ble_eq_true rfl) rfl (c_countNotHome (P := s.1) hp hC2.1 sAt10 hC2.2.1 hvs _) ?_
        exact y_ireturn dX8_goOn_50 rfl (QC_of (A' := setA (setN A s) (0, (aA A).2)) (by simp [f_goOn, g, ix_nI (show b < 2 ^ 31 by omega), hks]) hC2 ⟨fun z hz => hfr z (by omega), rfl⟩)
      · have hkn : aK A b = none := by
          cases hka : aK A b with
          | none => rfl
          | some s => rw [hka] at hKb; simp only at hKb; rw [hKb.1] at hc17; exact absurd hc17 (by decide)
        refine z_bipush (v := -3) dX8_goOn_20 rfl ?_
        exact y_ireturn dX8_goOn_22 rfl (QC_rf hC (by simp [f_goOn, g, ix_nI (show b < 2 ^ 31 by omega), hkn]))
    · refine z_iconst (v := -1) dX8_goOn_9 rfl ?_
      exact y_ireturn dX8_goOn_10 rfl (QC_rf hC (by simp [f_goOn, inr_ge hc6]))
