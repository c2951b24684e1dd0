/-! the first state, and the law -/
def A0 : AS := ((2, 2, 0, 0, fun _ => 0, fun _ => 0, fun _ => 0), (fun _ => 0, 0), (0, fun _ => (fun _ => 0, 0)), fun _ => none, (0, fun _ => (false, 0), fun _ => (false, 0), fun _ => 0), (0, fun _ => 0), 0)
theorem AV0 : AV A0 := by
  refine ⟨⟨by decide, by decide, by decide, by decide, by decide, by decide, fun _ _ => Nat.zero_le _, fun b hb => absurd hb (Nat.not_lt_zero _)⟩, ⟨fun b hb => absurd hb (Nat.not_lt_zero _), by show 0 < 2 ^ 20; decide⟩, ⟨Nat.zero_le _, fun i hi => absurd hi (Nat.not_lt_zero _)⟩, fun k _ s e => (by cases e), ⟨Nat.zero_le _, fun i hi => absurd hi (Nat.not_lt_zero _)⟩, Nat.zero_le _, fun i _ => by show 0 < 256; decide⟩
theorem CR0 : CR A0 muI nuI := by
  refine ⟨⟨rfl, rfl, rfl, rfl, rfl, fun c _ => rfl, fun b hb => absurd hb (Nat.not_lt_zero _), fun c y hc hy => ?_⟩, ⟨fun b hb => absurd hb (Nat.not_lt_zero _), rfl⟩, ⟨0, by decide, rfl, rfl, fun i hi => absurd hi (Nat.not_lt_zero _)⟩, fun i hi => rfl, ⟨rfl, fun i hi => absurd hi (Nat.not_lt_zero _)⟩, ⟨rfl, by decide, fun i hi => ⟨rfl, by show 0 < 256; decide⟩⟩, ⟨0, fun _ => 0, rfl, by decide, fun j hj => absurd hj (Nat.not_lt_zero _), fun q _ => Or.inl rfl⟩, rfl⟩
  have hc : c < 4 := hc
  have e1 : (c * 4 + y) / 4 = c := by omega
  have e2 : (c * 4 + y) % 4 = y := by omega
  have e3 : c * 4 + y < 2 * 2 * 4 := by omega
  show muI 7 (c * 4 + y) = nI (nbc 2 2 0 c y) ∧ muI 8 (c * 4 + y) = nI (nbc 2 2 0 c y) ∧ muI 9 (c * 4 + y) = nI (shn 2 2 c y) - 1
  refine ⟨?_, ?_, ?_⟩
  · unfold muI layK; rw [if_pos ⟨by omega, e3⟩, if_pos rfl, e1, e2]
  · unfold muI layK; rw [if_pos ⟨by omega, e3⟩, if_neg (by decide), if_pos rfl, e1, e2]
  · unfold muI layK; rw [if_pos ⟨by omega, e3⟩, if_neg (by decide), if_neg (by decide), e1, e2]
theorem MR0 : MR A0 muI nuI := ⟨⟨rfl, rfl, rfl, rfl, fun c _ => rfl, fun b hb => absurd hb (Nat.not_lt_zero _)⟩, ⟨fun b hb => absurd hb (Nat.not_lt_zero _), rfl⟩, ⟨rfl, fun i hi => absurd hi (Nat.not_lt_zero _)⟩, fun i _ => rfl, ⟨rfl, fun i hi => absurd hi (Nat.not_lt_zero _)⟩, ⟨rfl, fun i hi => absurd hi (Nat.not_lt_zero _)⟩, rfl⟩
theorem CR_fr {A : AS} {mu mu1 : zmu} {nu nu1 : znu} (h : CR A mu nu) (e : FrM mu nu mu1 nu1) : CR A mu1 nu1 := CR_scr h (fun a ha _ => e.1 a ha) (SRH_eq h.2.2.2.2.2.2.1 (fun x _ h2 => e.1 x (by omega))) e.2
theorem MR_fr {A : AS} {mu mu1 : zmu} {nu nu1 : znu} (h : MR A mu nu) (e : FrC mu nu mu1 nu1) : MR A mu1 nu1 := by
  obtain ⟨h1, h2, h3, h4, h5, h6, h7⟩ := h
  obtain ⟨e, en⟩ := e
  have e66 := e 66 (by decide)
  refine ⟨?_, PG_e h2 (e 73 (by decide)), BK_e h3 (congrFun e66 20) (e 75 (by decide)), KM_e h4 (e 76 (by decide)) (e 77 (by decide)), SM_e h5 (congrFun e66 23) (e 78 (by decide)) (e 79 (by decide)) (e 80 (by decide)), TM_e h6 (congrFun e66 2) (e 67 (by decide)), en.trans h7⟩
  unfold PM at *
  rw [e66, e 68 (by decide), e 69 (by decide), e 70 (by decide)]; exact h1
theorem lg_self (x : Int64) : lg_cmp x x = 0 := by
  unfold lg_cmp
  rw [if_neg (fun h => absurd (Int64.lt_iff_toInt_lt.mp h) (Int.lt_irrefl _)), if_pos rfl]
theorem l_sld {X : zX} {M : zM} {d k q pc j : Nat} {L S : List Value} {n : Nat} {h : zH} {Q : zQ} (hd : decode M.2.1 pc = .ok (.iaload, 1)) (hj : j < X.1) (hX : X.1 ≤ 256) (kk : zJ X M d k q (pc + 1) L (.int (X.2 j) :: S) n h Q) : zJ X M d k q pc L (.int (nI j) :: .ref 1000000 :: S) n h Q := by
  refine z_sld hd (vp_in_nI hj (by omega)) ?_
  rw [nI_clamp (by omega)]; exact kk
def bz (x : Int32) : Bool := decide (¬ x = 0)
theorem l_bool {X : zX} {M : zM} {d k q pc : Nat} {L S : List Value} {n : Nat} {h : zH} {Q : zQ} {x : Int32} (hd0 : decode M.2.1 pc = .ok (.ifCond .eq 7, 3)) (hd1 : decode M.2.1 (pc + 3) = .ok (.iconst 1, 1)) (hd2 : decode M.2.1 (pc + 4) = .ok (.goto 4, 3)) (hd3 : decode M.2.1 (pc + 7) = .ok (.iconst 0, 1)) (kk : zJ X M d k q (pc + 8) L (.int (b2i (bz x)) :: S) n h Q) : zJ X M d k q pc L (.int x :: S) n h Q := by
  refine z_if_eq (tgt := pc + 7) hd0 (by omega) (fun hx => ?_) (fun hx => ?_)
  · refine z_iconst (v := b2i (bz x)) hd3 (by rw [bz, hx]; rfl) kk
  · refine z_iconst (v := b2i (bz x)) hd1 (by rw [bz, decide_eq_true hx]; rfl) ?_
    exact z_goto (tgt := pc + 8) hd2 (by omega) kk
theorem and_31 (x : Int32) : ∃ c, c < 32 ∧ x &&& nI 31 = nI c := by
  refine ⟨(x &&& nI 31).toBitVec.toNat, ?_, ?_⟩
  · rw [Int32.toBitVec_and, BitVec.toNat_and]
    exact Nat.lt_of_le_of_lt Nat.and_le_right (by decide)
  · exact (Int32.ofNat_bitVecToNat (x &&& nI 31).toBitVec).symm
theorem law_cmp {i L : Nat} (hi : i < 1000) (hL : L < 1000) : nI L - nI 4 < nI i ↔ L < i + 4 := by
  rw [Int32.lt_iff_toInt_lt, nI_subt (by omega) (by decide), nI_toInt (by omega)]; omega
def QL : zq := fun r _ _ => r = some (.int 1)
set_option maxRecDepth 4000 in
theorem l_write {X : zX} {mu : zmu} {nu : znu} {A : AS} {i : Nat} (hX : X.1 ≤ 256) (hi : i + 4 ≤ X.1) (hA : AV A) (hC : CR A mu nu) (hM : MR A mu nu) (d : Nat) (kk : ∀ A' mu' nu', AV A' → CR A' mu' nu' → MR A' mu' nu' → zJ X M_law (d + 11) 0 0 1020 [.ref 1000000, .ref 0, .ref 66, .int (nI i)] [] 86 (zEE mu' nu') (zlift QL)) : zJ X M_law (d + 11) 0 0 164 [.ref 1000000, .ref 0, .ref 66, .int (nI i)] [] 86 (zEE mu nu) (zlift QL) := by
  refine z_aload_n dL_law_164 rfl ?_
  refine z_aload_n dL_law_165 rfl ?_
  refine z_iload_n dL_law_166 rfl ?_
  refine z_iconst (v := nI 1) dL_law_167 rfl ?_
  refine zn_iadd dL_law_168 ?_
  refine l_sld dL_law_169 (by omega) hX ?_
  refine y_callV1 (M' := M_X8_write) dL_law_170 lm_L_13 cv_X8_write rfl (Nat.le_of_ble_eq_true rfl) (Nat.le_of_ble_eq_true rfl) rfl (k_write hA hC (X.2 (i + 1)) _) (fun r mu1 nu1 hq => ?_)
  obtain ⟨rfl, hC1, hF1⟩ := hq
  have hM1 := MR_fr hM hF1
  refine z_aload_n dL_law_173 rfl ?_
  refine z_aload_n dL_law_174 rfl ?_
  refine z_iload_n dL_law_175 rfl ?_
  refine z_iconst (v := nI 1) dL_law_176 rfl ?_
  refine zn_iadd dL_law_177 ?_
  refine l_sld dL_law_178 (by omega) hX ?_
  refine y_callV1 (M' := M_X9_write) dL_law_179 lm_L_17 cv_X9_write rfl (Nat.le_of_ble_eq_true rfl) (Nat.le_of_ble_eq_true rfl) rfl (r_write hA hM1 (X.2 (i + 1)) _) (fun r mu2 nu2 hq => ?_)
  obtain ⟨rfl, hM2, hF2⟩ := hq
  have hC2 := CR_fr hC1 hF2
  refine z_icmp_eq (tgt := 1020) dL_law_182 (by decide) (fun hc182 => ?_) (fun hc182 => by exact absurd rfl hc182)
  exact kk _ _ _ (V_write hA (X.2 (i + 1))) hC2 hM2
set_option maxRecDepth 4000 in
theorem l_wipe {X : zX} {mu : zmu} {nu : znu} {A : AS} {i : Nat} (hX : X.1 ≤ 256) (hi : i + 4 ≤ X.1) (hA : AV A) (hC : CR A mu nu) (hM : MR A mu nu) (d : Nat) (kk : ∀ A' mu' nu', AV A' → CR A' mu' nu' → MR A' mu' nu' → zJ X M_law (d + 11) 0 0 1020 [.ref 1000000, .ref 0, .ref 66, .int (nI i)] [] 86 (zEE mu' nu') (zlift QL)) : zJ X M_law (d + 11) 0 0 187 [.ref 1000000, .ref 0, .ref 66, .int (nI i)] [] 86 (zEE mu nu) (zlift QL) := by
  refine z_aload_n dL_law_187 rfl ?_
  refine y_callV0 (M' := M_X8_wipe) dL_law_188 lm_L_18 cv_X8_wipe rfl (Nat.le_of_ble_eq_true rfl) (Nat.le_of_ble_eq_true rfl) rfl (k_wipe hA hC  _) (fun r mu1 nu1 hq => ?_)
  obtain ⟨rfl, hC1, hF1⟩ := hq
  have hM1 := MR_fr hM hF1
  refine z_aload_n dL_law_191 rfl ?_
  refine y_callV0 (M' := M_X9_wipe) dL_law_192 lm_L_22 cv_X9_wipe rfl (Nat.le_of_ble_eq_true rfl) (Nat.le_of_ble_eq_true rfl) rfl (r_wipe hA hM1  _) (fun r mu2 nu2 hq => ?_)
  obtain ⟨rfl, hM2, hF2⟩ := hq
  have hC2 := CR_fr hC1 hF2
  refine z_icmp_eq (tgt := 1020) dL_law_195 (by decide) (fun hc195 => ?_) (fun hc195 => by exact absurd rfl hc195)
  exact kk _ _ _ (V_wipe hA ) hC2 hM2
set_option maxRecDepth 4000 in
theorem l_fault {X : zX} {mu : zmu} {nu : znu} {A : AS} {i : Nat} (hX : X.1 ≤ 256) (hi : i + 4 ≤ X.1) (hA : AV A) (hC : CR A mu nu) (hM : MR A mu nu) (d : Nat) (kk : ∀ A' mu' nu', AV A' → CR A' mu' nu' → MR A' mu' nu' → zJ X M_law (d + 11) 0 0 1020 [.ref 1000000, .ref 0, .ref 66, .int (nI i)] [] 86 (zEE mu' nu') (zlift QL)) : zJ X M_law (d + 11) 0 0 200 [.ref 1000000, .ref 0, .ref 66, .int (nI i)] [] 86 (zEE mu nu) (zlift QL) := by
  refine z_aload_n dL_law_200 rfl ?_
  refine y_callV0 (M' := M_X8_fault) dL_law_201 lm_L_23 cv_X8_fault rfl (Nat.le_of_ble_eq_true rfl) (Nat.le_of_ble_eq_true rfl) rfl (k_fault hA hC  _) (fun r mu1 nu1 hq => ?_)
  obtain ⟨rfl, hC1, hF1⟩ := hq
  have hM1 := MR_fr hM hF1
  refine z_aload_n dL_law_204 rfl ?_
  refine y_callV0 (M' := M_X9_fault) dL_law_205 lm_L_26 cv_X9_fault rfl (Nat.le_of_ble_eq_true rfl) (Nat.le_of_ble_eq_true rfl) rfl (r_fault hA hM1  _) (fun r mu2 nu2 hq => ?_)
  obtain ⟨rfl, hM2, hF2⟩ := hq
  have hC2 := CR_fr hC1 hF2
  refine z_icmp_eq (tgt := 1020) dL_law_208 (by decide) (fun hc208 => ?_) (fun hc208 => by exact absurd rfl hc208)
  exact kk _ _ _ hA hC2 hM2
set_option maxRecDepth 4000 in
theorem l_paper {X : zX} {mu : zmu} {nu : znu} {A : AS} {i : Nat} (hX : X.1 ≤ 256) (hi : i + 4 ≤ X.1) (hA : AV A) (hC : CR A mu nu) (hM : MR A mu nu) (d : Nat) (kk : ∀ A' mu' nu', AV A' → CR A' mu' nu' → MR A' mu' nu' → zJ X M_law (d + 11) 0 0 1020 [.ref 1000000, .ref 0, .ref 66, .int (nI i)] [] 86 (zEE mu' nu') (zlift QL)) : zJ X M_law (d + 11) 0 0 213 [.ref 1000000, .ref 0, .ref 66, .int (nI i)] [] 86 (zEE mu nu) (zlift QL) := by
  refine z_aload_n dL_law_213 rfl ?_
  refine y_callV0 (M' := M_X8_paper) dL_law_214 lm_L_27 cv_X8_paper rfl (Nat.le_of_ble_eq_true rfl) (Nat.le_of_ble_eq_true rfl) rfl (k_paper hA hC  _) (fun r mu1 nu1 hq => ?_)
  obtain ⟨rfl, hC1, hF1⟩ := hq
  have hM1 := MR_fr hM hF1
  refine z_aload_n dL_law_217 rfl ?_
  refine y_callV0 (M' := M_X9_paper) dL_law_218 lm_L_30 cv_X9_paper rfl (Nat.le_of_ble_eq_true rfl) (Nat.le_of_ble_eq_true rfl) rfl (r_paper hA hM1  _) (fun r mu2 nu2 hq => ?_)
  obtain ⟨rfl, hM2, hF2⟩ := hq
  have hC2 := CR_fr hC1 hF2
  refine z_icmp_eq (tgt := 1020) dL_law_221 (by decide) (fun hc221 => ?_) (fun hc221 => by exact absurd rfl hc221)
  exact kk _ _ _ (V_paper hA ) hC2 hM2
set_option maxRecDepth 4000 in
theorem l_about {X : zX} {mu : zmu} {nu : znu} {A : AS} {i : Nat} (hX : X.1 ≤ 256) (hi : i + 4 ≤ X.1) (hA : AV A) (hC : CR A mu nu) (hM : MR A mu nu) (d : Nat) (kk : ∀ A' mu' nu', AV A' → CR A' mu' nu' → MR A' mu' nu' → zJ X M_law (d + 11) 0 0 1020 [.ref 1000000, .ref 0, .ref 66, .int (nI i)] [] 86 (zEE mu' nu') (zlift QL)) : zJ X M_law (d + 11) 0 0 226 [.ref 1000000, .ref 0, .ref 66, .int (nI i)] [] 86 (zEE mu nu) (zlift QL) := by
  refine z_aload_n dL_law_226 rfl ?_
  refine z_aload_n dL_law_227 rfl ?_
  refine z_iload_n dL_law_228 rfl ?_
  refine z_iconst (v := nI 1) dL_law_229 rfl ?_
  refine zn_iadd dL_law_230 ?_
  refine l_sld dL_law_231 (by omega) hX ?_
  refine y_callV1 (M' := M_X8_about) dL_law_232 lm_L_31 cv_X8_about rfl (Nat.le_of_ble_eq_true rfl) (Nat.le_of_ble_eq_true rfl) rfl (k_about hA hC (X.2 (i + 1)) _) (fun r mu1 nu1 hq => ?_)
  obtain ⟨rfl, hC1, hF1⟩ := hq
  have hM1 := MR_fr hM hF1
  refine z_aload_n dL_law_235 rfl ?_
  refine z_aload_n dL_law_236 rfl ?_
  refine z_iload_n dL_law_237 rfl ?_
  refine z_iconst (v := nI 1) dL_law_238 rfl ?_
  refine zn_iadd dL_law_239 ?_
  refine l_sld dL_law_240 (by omega) hX ?_
  refine y_callV1 (M' := M_X9_about) dL_law_241 lm_L_34 cv_X9_about rfl (Nat.le_of_ble_eq_true rfl) (Nat.le_of_ble_eq_true rfl) rfl (r_about hA hM1 (X.2 (i + 1)) _) (fun r mu2 nu2 hq => ?_)
  obtain ⟨rfl, hM2, hF2⟩ := hq
  have hC2 := CR_fr hC1 hF2
  refine z_icmp_eq (tgt := 1020) dL_law_244 (by decide) (fun hc244 => ?_) (fun hc244 => by exact absurd rfl hc244)
  exact kk _ _ _ hA hC2 hM2
set_option maxRecDepth 4000 in
theorem l_cell {X : zX} {mu : zmu} {nu : znu} {A : AS} {i : Nat} (hX : X.1 ≤ 256) (hi : i + 4 ≤ X.1) (hA : AV A) (hC : CR A mu nu) (hM : MR A mu nu) (d : Nat) (kk : ∀ A' mu' nu', AV A' → CR A' mu' nu' → MR A' mu' nu' → zJ X M_law (d + 11) 0 0 1020 [.ref 1000000, .ref 0, .ref 66, .int (nI i)] [] 86 (zEE mu' nu') (zlift QL)) : zJ X M_law (d + 11) 0 0 249 [.ref 1000000, .ref 0, .ref 66, .int (nI i)] [] 86 (zEE mu nu) (zlift QL) := by
  refine z_aload_n dL_law_249 rfl ?_
  refine z_aload_n dL_law_250 rfl ?_
  refine z_iload_n dL_law_251 rfl ?_
  refine z_iconst (v := nI 1) dL_law_252 rfl ?_
  refine zn_iadd dL_law_253 ?_
  refine l_sld dL_law_254 (by omega) hX ?_
  refine y_callV1 (M' := M_X8_cell) dL_law_255 lm_L_35 cv_X8_cell rfl (Nat.le_of_ble_eq_true rfl) (Nat.le_of_ble_eq_true rfl) rfl (k_cell hA hC (X.2 (i + 1)) _) (fun r mu1 nu1 hq => ?_)
  obtain ⟨rfl, hC1, hF1⟩ := hq
  have hM1 := MR_fr hM hF1
  refine z_aload_n dL_law_258 rfl ?_
  refine z_aload_n dL_law_259 rfl ?_
  refine z_iload_n dL_law_260 rfl ?_
  refine z_iconst (v := nI 1) dL_law_261 rfl ?_
  refine zn_iadd dL_law_262 ?_
  refine l_sld dL_law_263 (by omega) hX ?_
  refine y_callV1 (M' := M_X9_cell) dL_law_264 lm_L_38 cv_X9_cell rfl (Nat.le_of_ble_eq_true rfl) (Nat.le_of_ble_eq_true rfl) rfl (r_cell hA hM1 (X.2 (i + 1)) _) (fun r mu2 nu2 hq => ?_)
  obtain ⟨rfl, hM2, hF2⟩ := hq
  have hC2 := CR_fr hC1 hF2
  refine z_icmp_eq (tgt := 1020) dL_law_267 (by decide) (fun hc267 => ?_) (fun hc267 => by exact absurd rfl hc267)
  exact kk _ _ _ hA hC2 hM2
set_option maxRecDepth 4000 in
theorem l_beside {X : zX} {mu : zmu} {nu : znu} {A : AS} {i : Nat} (hX : X.1 ≤ 256) (hi : i + 4 ≤ X.1) (hA : AV A) (hC : CR A mu nu) (hM : MR A mu nu) (d : Nat) (kk : ∀ A' mu' nu', AV A' → CR A' mu' nu' → MR A' mu' nu' → zJ X M_law (d + 11) 0 0 1020 [.ref 1000000, .ref 0, .ref 66, .int (nI i)] [] 86 (zEE mu' nu') (zlift QL)) : zJ X M_law (d + 11) 0 0 272 [.ref 1000000, .ref 0, .ref 66, .int (nI i)] [] 86 (zEE mu nu) (zlift QL) := by
  refine z_aload_n dL_law_272 rfl ?_
  refine z_aload_n dL_law_273 rfl ?_
  refine z_iload_n dL_law_274 rfl ?_
  refine z_iconst (v := nI 1) dL_law_275 rfl ?_
  refine zn_iadd dL_law_276 ?_
  refine l_sld dL_law_277 (by omega) hX ?_
  refine z_aload_n dL_law_278 rfl ?_
  refine z_iload_n dL_law_279 rfl ?_
  refine z_iconst (v := nI 2) dL_law_280 rfl ?_
  refine zn_iadd dL_law_281 ?_
  refine l_sld dL_law_282 (by omega) hX ?_
  refine z_aload_n dL_law_283 rfl ?_
  refine z_iload_n dL_law_284 rfl ?_
  refine z_iconst (v := nI 3) dL_law_285 rfl ?_
  refine zn_iadd dL_law_286 ?_
  refine l_sld dL_law_287 (by omega) hX ?_
  refine l_bool dL_law_288 dL_law_291 dL_law_292 dL_law_295 ?_
  refine y_callV3 (M' := M_X8_beside) dL_law_296 lm_L_39 cv_X8_beside rfl (Nat.le_of_ble_eq_true rfl) (Nat.le_of_ble_eq_true rfl) rfl (k_beside hA hC (X.2 (i + 1)) (X.2 (i + 2)) (bz (X.2 (i + 3))) _) (fun r mu1 nu1 hq => ?_)
  obtain ⟨rfl, hC1, hF1⟩ := hq
  have hM1 := MR_fr hM hF1
  refine z_aload_n dL_law_299 rfl ?_
  refine z_aload_n dL_law_300 rfl ?_
  refine z_iload_n dL_law_301 rfl ?_
  refine z_iconst (v := nI 1) dL_law_302 rfl ?_
  refine zn_iadd dL_law_303 ?_
  refine l_sld dL_law_304 (by omega) hX ?_
  refine z_aload_n dL_law_305 rfl ?_
  refine z_iload_n dL_law_306 rfl ?_
  refine z_iconst (v := nI 2) dL_law_307 rfl ?_
  refine zn_iadd dL_law_308 ?_
  refine l_sld dL_law_309 (by omega) hX ?_
  refine z_aload_n dL_law_310 rfl ?_
  refine z_iload_n dL_law_311 rfl ?_
  refine z_iconst (v := nI 3) dL_law_312 rfl ?_
  refine zn_iadd dL_law_313 ?_
  refine l_sld dL_law_314 (by omega) hX ?_
  refine l_bool dL_law_315 dL_law_318 dL_law_319 dL_law_322 ?_
  refine y_callV3 (M' := M_X9_beside) dL_law_323 lm_L_43 cv_X9_beside rfl (Nat.le_of_ble_eq_true rfl) (Nat.le_of_ble_eq_true rfl) rfl (r_beside hA hM1 (X.2 (i + 1)) (X.2 (i + 2)) (bz (X.2 (i + 3))) _) (fun r mu2 nu2 hq => ?_)
  obtain ⟨rfl, hM2, hF2⟩ := hq
  have hC2 := CR_fr hC1 hF2
  refine z_icmp_eq (tgt := 1020) dL_law_326 (by decide) (fun hc326 => ?_) (fun hc326 => by exact absurd rfl hc326)
  exact kk _ _ _ hA hC2 hM2
set_option maxRecDepth 4000 in
theorem l_boy {X : zX} {mu : zmu} {nu : znu} {A : AS} {i : Nat} (hX : X.1 ≤ 256) (hi : i + 4 ≤ X.1) (hA : AV A) (hC : CR A mu nu) (hM : MR A mu nu) (d : Nat) (kk : ∀ A' mu' nu', AV A' → CR A' mu' nu' → MR A' mu' nu' → zJ X M_law (d + 11) 0 0 1020 [.ref 1000000, .ref 0, .ref 66, .int (nI i)] [] 86 (zEE mu' nu') (zlift QL)) : zJ X M_law (d + 11) 0 0 331 [.ref 1000000, .ref 0, .ref 66, .int (nI i)] [] 86 (zEE mu nu) (zlift QL) := by
  refine z_aload_n dL_law_331 rfl ?_
  refine z_aload_n dL_law_332 rfl ?_
  refine z_iload_n dL_law_333 rfl ?_
  refine z_iconst (v := nI 1) dL_law_334 rfl ?_
  refine zn_iadd dL_law_335 ?_
  refine l_sld dL_law_336 (by omega) hX ?_
  refine z_aload_n dL_law_337 rfl ?_
  refine z_iload_n dL_law_338 rfl ?_
  refine z_iconst (v := nI 2) dL_law_339 rfl ?_
  refine zn_iadd dL_law_340 ?_
  refine l_sld dL_law_341 (by omega) hX ?_
  refine y_callV2 (M' := M_X8_boy) dL_law_342 lm_L_44 cv_X8_boy rfl (Nat.le_of_ble_eq_true rfl) (Nat.le_of_ble_eq_true rfl) rfl (k_boy hA hC (X.2 (i + 1)) (X.2 (i + 2)) _) (fun r mu1 nu1 hq => ?_)
  obtain ⟨rfl, hC1, hF1⟩ := hq
  have hM1 := MR_fr hM hF1
  refine z_aload_n dL_law_345 rfl ?_
  refine z_aload_n dL_law_346 rfl ?_
  refine z_iload_n dL_law_347 rfl ?_
  refine z_iconst (v := nI 1) dL_law_348 rfl ?_
  refine zn_iadd dL_law_349 ?_
  refine l_sld dL_law_350 (by omega) hX ?_
  refine z_aload_n dL_law_351 rfl ?_
  refine z_iload_n dL_law_352 rfl ?_
  refine z_iconst (v := nI 2) dL_law_353 rfl ?_
  refine zn_iadd dL_law_354 ?_
  refine l_sld dL_law_355 (by omega) hX ?_
  refine y_callV2 (M' := M_X9_boy) dL_law_356 lm_L_48 cv_X9_boy rfl (Nat.le_of_ble_eq_true rfl) (Nat.le_of_ble_eq_true rfl) rfl (r_boy hA hM1 (X.2 (i + 1)) (X.2 (i + 2)) _) (fun r mu2 nu2 hq => ?_)
  obtain ⟨rfl, hM2, hF2⟩ := hq
  have hC2 := CR_fr hC1 hF2
  refine z_icmp_eq (tgt := 1020) dL_law_359 (by decide) (fun hc359 => ?_) (fun hc359 => by exact absurd rfl hc359)
  exact kk _ _ _ hA hC2 hM2
set_option maxRecDepth 4000 in
theorem l_step {X : zX} {mu : zmu} {nu : znu} {A : AS} {i : Nat} (hX : X.1 ≤ 256) (hi : i + 4 ≤ X.1) (hA : AV A) (hC : CR A mu nu) (hM : MR A mu nu) (d : Nat) (kk : ∀ A' mu' nu', AV A' → CR A' mu' nu' → MR A' mu' nu' → zJ X M_law (d + 11) 0 0 1020 [.ref 1000000, .ref 0, .ref 66, .int (nI i)] [] 86 (zEE mu' nu') (zlift QL)) : zJ X M_law (d + 11) 0 0 364 [.ref 1000000, .ref 0, .ref 66, .int (nI i)] [] 86 (zEE mu nu) (zlift QL) := by
  refine z_aload_n dL_law_364 rfl ?_
  refine z_aload_n dL_law_365 rfl ?_
  refine z_iload_n dL_law_366 rfl ?_
  refine z_iconst (v := nI 1) dL_law_367 rfl ?_
  refine zn_iadd dL_law_368 ?_
  refine l_sld dL_law_369 (by omega) hX ?_
  refine z_aload_n dL_law_370 rfl ?_
  refine z_iload_n dL_law_371 rfl ?_
  refine z_iconst (v := nI 2) dL_law_372 rfl ?_
  refine zn_iadd dL_law_373 ?_
  refine l_sld dL_law_374 (by omega) hX ?_
  refine y_callV2 (M' := M_X8_step) dL_law_375 lm_L_49 cv_X8_step rfl (Nat.le_of_ble_eq_true rfl) (Nat.le_of_ble_eq_true rfl) rfl (k_step hA hC (X.2 (i + 1)) (X.2 (i + 2)) _) (fun r mu1 nu1 hq => ?_)
  obtain ⟨rfl, hC1, hF1⟩ := hq
  have hM1 := MR_fr hM hF1
  refine z_aload_n dL_law_378 rfl ?_
  refine z_aload_n dL_law_379 rfl ?_
  refine z_iload_n dL_law_380 rfl ?_
  refine z_iconst (v := nI 1) dL_law_381 rfl ?_
  refine zn_iadd dL_law_382 ?_
  refine l_sld dL_law_383 (by omega) hX ?_
  refine z_aload_n dL_law_384 rfl ?_
  refine z_iload_n dL_law_385 rfl ?_
  refine z_iconst (v := nI 2) dL_law_386 rfl ?_
  refine zn_iadd dL_law_387 ?_
  refine l_sld dL_law_388 (by omega) hX ?_
  refine y_callV2 (M' := M_X9_step) dL_law_389 lm_L_52 cv_X9_step rfl (Nat.le_of_ble_eq_true rfl) (Nat.le_of_ble_eq_true rfl) rfl (r_step hA hM1 (X.2 (i + 1)) (X.2 (i + 2)) _) (fun r mu2 nu2 hq => ?_)
  obtain ⟨rfl, hM2, hF2⟩ := hq
  have hC2 := CR_fr hC1 hF2
  refine z_icmp_eq (tgt := 1020) dL_law_392 (by decide) (fun hc392 => ?_) (fun hc392 => by exact absurd rfl hc392)
  exact kk _ _ _ (V_step hA (X.2 (i + 1)) (X.2 (i + 2))) hC2 hM2
set_option maxRecDepth 4000 in
theorem l_call {X : zX} {mu : zmu} {nu : znu} {A : AS} {i : Nat} (hX : X.1 ≤ 256) (hi : i + 4 ≤ X.1) (hA : AV A) (hC : CR A mu nu) (hM : MR A mu nu) (d : Nat) (kk : ∀ A' mu' nu', AV A' → CR A' mu' nu' → MR A' mu' nu' → zJ X M_law (d + 11) 0 0 1020 [.ref 1000000, .ref 0, .ref 66, .int (nI i)] [] 86 (zEE mu' nu') (zlift QL)) : zJ X M_law (d + 11) 0 0 397 [.ref 1000000, .ref 0, .ref 66, .int (nI i)] [] 86 (zEE mu nu) (zlift QL) := by
  refine z_aload_n dL_law_397 rfl ?_
  refine z_aload_n dL_law_398 rfl ?_
  refine z_iload_n dL_law_399 rfl ?_
  refine z_iconst (v := nI 1) dL_law_400 rfl ?_
  refine zn_iadd dL_law_401 ?_
  refine l_sld dL_law_402 (by omega) hX ?_
  refine y_callV1 (M' := M_X8_call) dL_law_403 lm_L_53 cv_X8_call rfl (Nat.le_of_ble_eq_true rfl) (Nat.le_of_ble_eq_true rfl) rfl (k_call hA hC (X.2 (i + 1)) _) (fun r mu1 nu1 hq => ?_)
  obtain ⟨rfl, hC1, hF1⟩ := hq
  have hM1 := MR_fr hM hF1
  refine z_aload_n dL_law_406 rfl ?_
  refine z_aload_n dL_law_407 rfl ?_
  refine z_iload_n dL_law_408 rfl ?_
  refine z_iconst (v := nI 1) dL_law_409 rfl ?_
  refine zn_iadd dL_law_410 ?_
  refine l_sld dL_law_411 (by omega) hX ?_
  refine y_callV1 (M' := M_X9_call) dL_law_412 lm_L_56 cv_X9_call rfl (Nat.le_of_ble_eq_true rfl) (Nat.le_of_ble_eq_true rfl) rfl (r_call hA hM1 (X.2 (i + 1)) _) (fun r mu2 nu2 hq => ?_)
  obtain ⟨rfl, hM2, hF2⟩ := hq
  have hC2 := CR_fr hC1 hF2
  refine z_icmp_eq (tgt := 1020) dL_law_415 (by decide) (fun hc415 => ?_) (fun hc415 => by exact absurd rfl hc415)
  exact kk _ _ _ (V_call hA (X.2 (i + 1))) hC2 hM2
set_option maxRecDepth 4000 in
theorem l_cut {X : zX} {mu : zmu} {nu : znu} {A : AS} {i : Nat} (hX : X.1 ≤ 256) (hi : i + 4 ≤ X.1) (hA : AV A) (hC : CR A mu nu) (hM : MR A mu nu) (d : Nat) (kk : ∀ A' mu' nu', AV A' → CR A' mu' nu' → MR A' mu' nu' → zJ X M_law (d + 11) 0 0 1020 [.ref 1000000, .ref 0, .ref 66, .int (nI i)] [] 86 (zEE mu' nu') (zlift QL)) : zJ X M_law (d + 11) 0 0 420 [.ref 1000000, .ref 0, .ref 66, .int (nI i)] [] 86 (zEE mu nu) (zlift QL) := by
  refine z_aload_n dL_law_420 rfl ?_
  refine z_aload_n dL_law_421 rfl ?_
  refine z_iload_n dL_law_422 rfl ?_
  refine z_iconst (v := nI 1) dL_law_423 rfl ?_
  refine zn_iadd dL_law_424 ?_
  refine l_sld dL_law_425 (by omega) hX ?_
  refine y_callV1 (M' := M_X8_cut) dL_law_426 lm_L_57 cv_X8_cut rfl (Nat.le_of_ble_eq_true rfl) (Nat.le_of_ble_eq_true rfl) rfl (k_cut hA hC (X.2 (i + 1)) _) (fun r mu1 nu1 hq => ?_)
  obtain ⟨rfl, hC1, hF1⟩ := hq
  have hM1 := MR_fr hM hF1
  refine z_aload_n dL_law_429 rfl ?_
  refine z_aload_n dL_law_430 rfl ?_
  refine z_iload_n dL_law_431 rfl ?_
  refine z_iconst (v := nI 1) dL_law_432 rfl ?_
  refine zn_iadd dL_law_433 ?_
  refine l_sld dL_law_434 (by omega) hX ?_
  refine y_callV1 (M' := M_X9_cut) dL_law_435 lm_L_60 cv_X9_cut rfl (Nat.le_of_ble_eq_true rfl) (Nat.le_of_ble_eq_true rfl) rfl (r_cut hA hM1 (X.2 (i + 1)) _) (fun r mu2 nu2 hq => ?_)
  obtain ⟨rfl, hM2, hF2⟩ := hq
  have hC2 := CR_fr hC1 hF2
  refine z_icmp_eq (tgt := 1020) dL_law_438 (by decide) (fun hc438 => ?_) (fun hc438 => by exact absurd rfl hc438)
  exact kk _ _ _ (V_cut hA (X.2 (i + 1))) hC2 hM2
set_option maxRecDepth 4000 in
theorem l_undo {X : zX} {mu : zmu} {nu : znu} {A : AS} {i : Nat} (hX : X.1 ≤ 256) (hi : i + 4 ≤ X.1) (hA : AV A) (hC : CR A mu nu) (hM : MR A mu nu) (d : Nat) (kk : ∀ A' mu' nu', AV A' → CR A' mu' nu' → MR A' mu' nu' → zJ X M_law (d + 11) 0 0 1020 [.ref 1000000, .ref 0, .ref 66, .int (nI i)] [] 86 (zEE mu' nu') (zlift QL)) : zJ X M_law (d + 11) 0 0 443 [.ref 1000000, .ref 0, .ref 66, .int (nI i)] [] 86 (zEE mu nu) (zlift QL) := by
  refine z_aload_n dL_law_443 rfl ?_
  refine y_callV0 (M' := M_X8_undo) dL_law_444 lm_L_61 cv_X8_undo rfl (Nat.le_of_ble_eq_true rfl) (Nat.le_of_ble_eq_true rfl) rfl (k_undo hA hC  _) (fun r mu1 nu1 hq => ?_)
  obtain ⟨rfl, hC1, hF1⟩ := hq
  have hM1 := MR_fr hM hF1
  refine z_aload_n dL_law_447 rfl ?_
  refine y_callV0 (M' := M_X9_undo) dL_law_448 lm_L_64 cv_X9_undo rfl (Nat.le_of_ble_eq_true rfl) (Nat.le_of_ble_eq_true rfl) rfl (r_undo hA hM1  _) (fun r mu2 nu2 hq => ?_)
  obtain ⟨rfl, hM2, hF2⟩ := hq
  have hC2 := CR_fr hC1 hF2
  refine z_icmp_eq (tgt := 1020) dL_law_451 (by decide) (fun hc451 => ?_) (fun hc451 => by exact absurd rfl hc451)
  exact kk _ _ _ (V_undo hA ) hC2 hM2
set_option maxRecDepth 4000 in
theorem l_far {X : zX} {mu : zmu} {nu : znu} {A : AS} {i : Nat} (hX : X.1 ≤ 256) (hi : i + 4 ≤ X.1) (hA : AV A) (hC : CR A mu nu) (hM : MR A mu nu) (d : Nat) (kk : ∀ A' mu' nu', AV A' → CR A' mu' nu' → MR A' mu' nu' → zJ X M_law (d + 11) 0 0 1020 [.ref 1000000, .ref 0, .ref 66, .int (nI i)] [] 86 (zEE mu' nu') (zlift QL)) : zJ X M_law (d + 11) 0 0 456 [.ref 1000000, .ref 0, .ref 66, .int (nI i)] [] 86 (zEE mu nu) (zlift QL) := by
  refine z_aload_n dL_law_456 rfl ?_
  refine z_aload_n dL_law_457 rfl ?_
  refine z_iload_n dL_law_458 rfl ?_
  refine z_iconst (v := nI 1) dL_law_459 rfl ?_
  refine zn_iadd dL_law_460 ?_
  refine l_sld dL_law_461 (by omega) hX ?_
  refine y_callV1 (M' := M_X8_far) dL_law_462 lm_L_65 cv_X8_far rfl (Nat.le_of_ble_eq_true rfl) (Nat.le_of_ble_eq_true rfl) rfl (k_far hA hC (X.2 (i + 1)) _) (fun r mu1 nu1 hq => ?_)
  obtain ⟨rfl, hC1, hF1⟩ := hq
  have hM1 := MR_fr hM hF1
  refine z_aload_n dL_law_465 rfl ?_
  refine z_aload_n dL_law_466 rfl ?_
  refine z_iload_n dL_law_467 rfl ?_
  refine z_iconst (v := nI 1) dL_law_468 rfl ?_
  refine zn_iadd dL_law_469 ?_
  refine l_sld dL_law_470 (by omega) hX ?_
  refine y_callV1 (M' := M_X9_far) dL_law_471 lm_L_68 cv_X9_far rfl (Nat.le_of_ble_eq_true rfl) (Nat.le_of_ble_eq_true rfl) rfl (r_far hA hM1 (X.2 (i + 1)) _) (fun r mu2 nu2 hq => ?_)
  obtain ⟨rfl, hM2, hF2⟩ := hq
  have hC2 := CR_fr hC1 hF2
  refine z_icmp_eq (tgt := 1020) dL_law_474 (by decide) (fun hc474 => ?_) (fun hc474 => by exact absurd rfl hc474)
  exact kk _ _ _ hA hC2 hM2
set_option maxRecDepth 4000 in
theorem l_reach {X : zX} {mu : zmu} {nu : znu} {A : AS} {i : Nat} (hX : X.1 ≤ 256) (hi : i + 4 ≤ X.1) (hA : AV A) (hC : CR A mu nu) (hM : MR A mu nu) (d : Nat) (kk : ∀ A' mu' nu', AV A' → CR A' mu' nu' → MR A' mu' nu' → zJ X M_law (d + 11) 0 0 1020 [.ref 1000000, .ref 0, .ref 66, .int (nI i)] [] 86 (zEE mu' nu') (zlift QL)) : zJ X M_law (d + 11) 0 0 479 [.ref 1000000, .ref 0, .ref 66, .int (nI i)] [] 86 (zEE mu nu) (zlift QL) := by
  refine z_aload_n dL_law_479 rfl ?_
  refine z_aload_n dL_law_480 rfl ?_
  refine z_iload_n dL_law_481 rfl ?_
  refine z_iconst (v := nI 1) dL_law_482 rfl ?_
  refine zn_iadd dL_law_483 ?_
  refine l_sld dL_law_484 (by omega) hX ?_
  refine z_aload_n dL_law_485 rfl ?_
  refine z_iload_n dL_law_486 rfl ?_
  refine z_iconst (v := nI 2) dL_law_487 rfl ?_
  refine zn_iadd dL_law_488 ?_
  refine l_sld dL_law_489 (by omega) hX ?_
  refine y_callV2 (M' := M_X8_reach) dL_law_490 lm_L_69 cv_X8_reach rfl (Nat.le_of_ble_eq_true rfl) (Nat.le_of_ble_eq_true rfl) rfl (k_reach hA hC (X.2 (i + 1)) (X.2 (i + 2)) _) (fun r mu1 nu1 hq => ?_)
  obtain ⟨rfl, hC1, hF1⟩ := hq
  have hM1 := MR_fr hM hF1
  refine z_aload_n dL_law_493 rfl ?_
  refine z_aload_n dL_law_494 rfl ?_
  refine z_iload_n dL_law_495 rfl ?_
  refine z_iconst (v := nI 1) dL_law_496 rfl ?_
  refine zn_iadd dL_law_497 ?_
  refine l_sld dL_law_498 (by omega) hX ?_
  refine z_aload_n dL_law_499 rfl ?_
  refine z_iload_n dL_law_500 rfl ?_
  refine z_iconst (v := nI 2) dL_law_501 rfl ?_
  refine zn_iadd dL_law_502 ?_
  refine l_sld dL_law_503 (by omega) hX ?_
  refine y_callV2 (M' := M_X9_reach) dL_law_504 lm_L_72 cv_X9_reach rfl (Nat.le_of_ble_eq_true rfl) (Nat.le_of_ble_eq_true rfl) rfl (r_reach hA hM1 (X.2 (i + 1)) (X.2 (i + 2)) _) (fun r mu2 nu2 hq => ?_)
  obtain ⟨rfl, hM2, hF2⟩ := hq
  have hC2 := CR_fr hC1 hF2
  refine z_icmp_eq (tgt := 1020) dL_law_507 (by decide) (fun hc507 => ?_) (fun hc507 => by exact absurd rfl hc507)
  exact kk _ _ _ hA hC2 hM2
set_option maxRecDepth 4000 in
theorem l_again {X : zX} {mu : zmu} {nu : znu} {A : AS} {i : Nat} (hX : X.1 ≤ 256) (hi : i + 4 ≤ X.1) (hA : AV A) (hC : CR A mu nu) (hM : MR A mu nu) (d : Nat) (kk : ∀ A' mu' nu', AV A' → CR A' mu' nu' → MR A' mu' nu' → zJ X M_law (d + 11) 0 0 1020 [.ref 1000000, .ref 0, .ref 66, .int (nI i)] [] 86 (zEE mu' nu') (zlift QL)) : zJ X M_law (d + 11) 0 0 512 [.ref 1000000, .ref 0, .ref 66, .int (nI i)] [] 86 (zEE mu nu) (zlift QL) := by
  refine z_aload_n dL_law_512 rfl ?_
  refine z_aload_n dL_law_513 rfl ?_
  refine z_iload_n dL_law_514 rfl ?_
  refine z_iconst (v := nI 1) dL_law_515 rfl ?_
  refine zn_iadd dL_law_516 ?_
  refine l_sld dL_law_517 (by omega) hX ?_
  refine z_aload_n dL_law_518 rfl ?_
  refine z_iload_n dL_law_519 rfl ?_
  refine z_iconst (v := nI 2) dL_law_520 rfl ?_
  refine zn_iadd dL_law_521 ?_
  refine l_sld dL_law_522 (by omega) hX ?_
  refine y_callV2 (M' := M_X8_again) dL_law_523 lm_L_73 cv_X8_again rfl (Nat.le_of_ble_eq_true rfl) (Nat.le_of_ble_eq_true rfl) rfl (k_again hA hC (X.2 (i + 1)) (X.2 (i + 2)) _) (fun r mu1 nu1 hq => ?_)
  obtain ⟨rfl, hC1, hF1⟩ := hq
  have hM1 := MR_fr hM hF1
  refine z_aload_n dL_law_526 rfl ?_
  refine z_aload_n dL_law_527 rfl ?_
  refine z_iload_n dL_law_528 rfl ?_
  refine z_iconst (v := nI 1) dL_law_529 rfl ?_
  refine zn_iadd dL_law_530 ?_
  refine l_sld dL_law_531 (by omega) hX ?_
  refine z_aload_n dL_law_532 rfl ?_
  refine z_iload_n dL_law_533 rfl ?_
  refine z_iconst (v := nI 2) dL_law_534 rfl ?_
  refine zn_iadd dL_law_535 ?_
  refine l_sld dL_law_536 (by omega) hX ?_
  refine y_callV2 (M' := M_X9_again) dL_law_537 lm_L_76 cv_X9_again rfl (Nat.le_of_ble_eq_true rfl) (Nat.le_of_ble_eq_true rfl) rfl (r_again hA hM1 (X.2 (i + 1)) (X.2 (i + 2)) _) (fun r mu2 nu2 hq => ?_)
  obtain ⟨rfl, hM2, hF2⟩ := hq
  have hC2 := CR_fr hC1 hF2
  refine z_icmp_eq (tgt := 1020) dL_law_540 (by decide) (fun hc540 => ?_) (fun hc540 => by exact absurd rfl hc540)
  exact kk _ _ _ hA hC2 hM2
set_option maxRecDepth 4000 in
theorem l_alike {X : zX} {mu : zmu} {nu : znu} {A : AS} {i : Nat} (hX : X.1 ≤ 256) (hi : i + 4 ≤ X.1) (hA : AV A) (hC : CR A mu nu) (hM : MR A mu nu) (d : Nat) (kk : ∀ A' mu' nu', AV A' → CR A' mu' nu' → MR A' mu' nu' → zJ X M_law (d + 11) 0 0 1020 [.ref 1000000, .ref 0, .ref 66, .int (nI i)] [] 86 (zEE mu' nu') (zlift QL)) : zJ X M_law (d + 11) 0 0 545 [.ref 1000000, .ref 0, .ref 66, .int (nI i)] [] 86 (zEE mu nu) (zlift QL) := by
  refine z_aload_n dL_law_545 rfl ?_
  refine z_aload_n dL_law_546 rfl ?_
  refine z_iload_n dL_law_547 rfl ?_
  refine z_iconst (v := nI 1) dL_law_548 rfl ?_
  refine zn_iadd dL_law_549 ?_
  refine l_sld dL_law_550 (by omega) hX ?_
  refine y_callV1 (M' := M_X8_alike) dL_law_551 lm_L_77 cv_X8_alike rfl (Nat.le_of_ble_eq_true rfl) (Nat.le_of_ble_eq_true rfl) rfl (k_alike hA hC (X.2 (i + 1)) _) (fun r mu1 nu1 hq => ?_)
  obtain ⟨rfl, hC1, hF1⟩ := hq
  have hM1 := MR_fr hM hF1
  refine z_aload_n dL_law_554 rfl ?_
  refine z_aload_n dL_law_555 rfl ?_
  refine z_iload_n dL_law_556 rfl ?_
  refine z_iconst (v := nI 1) dL_law_557 rfl ?_
  refine zn_iadd dL_law_558 ?_
  refine l_sld dL_law_559 (by omega) hX ?_
  refine y_callV1 (M' := M_X9_alike) dL_law_560 lm_L_80 cv_X9_alike rfl (Nat.le_of_ble_eq_true rfl) (Nat.le_of_ble_eq_true rfl) rfl (r_alike hA hM1 (X.2 (i + 1)) _) (fun r mu2 nu2 hq => ?_)
  obtain ⟨rfl, hM2, hF2⟩ := hq
  have hC2 := CR_fr hC1 hF2
  refine z_icmp_eq (tgt := 1020) dL_law_563 (by decide) (fun hc563 => ?_) (fun hc563 => by exact absurd rfl hc563)
  exact kk _ _ _ hA hC2 hM2
set_option maxRecDepth 4000 in
theorem l_calls {X : zX} {mu : zmu} {nu : znu} {A : AS} {i : Nat} (hX : X.1 ≤ 256) (hi : i + 4 ≤ X.1) (hA : AV A) (hC : CR A mu nu) (hM : MR A mu nu) (d : Nat) (kk : ∀ A' mu' nu', AV A' → CR A' mu' nu' → MR A' mu' nu' → zJ X M_law (d + 11) 0 0 1020 [.ref 1000000, .ref 0, .ref 66, .int (nI i)] [] 86 (zEE mu' nu') (zlift QL)) : zJ X M_law (d + 11) 0 0 568 [.ref 1000000, .ref 0, .ref 66, .int (nI i)] [] 86 (zEE mu nu) (zlift QL) := by
  refine z_aload_n dL_law_568 rfl ?_
  refine z_aload_n dL_law_569 rfl ?_
  refine z_iload_n dL_law_570 rfl ?_
  refine z_iconst (v := nI 1) dL_law_571 rfl ?_
  refine zn_iadd dL_law_572 ?_
  refine l_sld dL_law_573 (by omega) hX ?_
  refine y_callV1 (M' := M_X8_calls) dL_law_574 lm_L_81 cv_X8_calls rfl (Nat.le_of_ble_eq_true rfl) (Nat.le_of_ble_eq_true rfl) rfl (k_calls hA hC (X.2 (i + 1)) _) (fun r mu1 nu1 hq => ?_)
  obtain ⟨rfl, hC1, hF1⟩ := hq
  have hM1 := MR_fr hM hF1
  refine z_aload_n dL_law_577 rfl ?_
  refine z_aload_n dL_law_578 rfl ?_
  refine z_iload_n dL_law_579 rfl ?_
  refine z_iconst (v := nI 1) dL_law_580 rfl ?_
  refine zn_iadd dL_law_581 ?_
  refine l_sld dL_law_582 (by omega) hX ?_
  refine y_callV1 (M' := M_X9_calls) dL_law_583 lm_L_84 cv_X9_calls rfl (Nat.le_of_ble_eq_true rfl) (Nat.le_of_ble_eq_true rfl) rfl (r_calls hA hM1 (X.2 (i + 1)) _) (fun r mu2 nu2 hq => ?_)
  obtain ⟨rfl, hM2, hF2⟩ := hq
  have hC2 := CR_fr hC1 hF2
  refine z_icmp_eq (tgt := 1020) dL_law_586 (by decide) (fun hc586 => ?_) (fun hc586 => by exact absurd rfl hc586)
  exact kk _ _ _ hA hC2 hM2
set_option maxRecDepth 4000 in
theorem l_match {X : zX} {mu : zmu} {nu : znu} {A : AS} {i : Nat} (hX : X.1 ≤ 256) (hi : i + 4 ≤ X.1) (hA : AV A) (hC : CR A mu nu) (hM : MR A mu nu) (d : Nat) (kk : ∀ A' mu' nu', AV A' → CR A' mu' nu' → MR A' mu' nu' → zJ X M_law (d + 11) 0 0 1020 [.ref 1000000, .ref 0, .ref 66, .int (nI i)] [] 86 (zEE mu' nu') (zlift QL)) : zJ X M_law (d + 11) 0 0 591 [.ref 1000000, .ref 0, .ref 66, .int (nI i)] [] 86 (zEE mu nu) (zlift QL) := by
  refine z_aload_n dL_law_591 rfl ?_
  refine z_aload_n dL_law_592 rfl ?_
  refine z_iload_n dL_law_593 rfl ?_
  refine z_iconst (v := nI 1) dL_law_594 rfl ?_
  refine zn_iadd dL_law_595 ?_
  refine l_sld dL_law_596 (by omega) hX ?_
  refine y_callV1 (M' := M_X8_match) dL_law_597 lm_L_85 cv_X8_match rfl (Nat.le_of_ble_eq_true rfl) (Nat.le_of_ble_eq_true rfl) rfl (k_match hA hC (X.2 (i + 1)) _) (fun r mu1 nu1 hq => ?_)
  obtain ⟨rfl, hC1, hF1⟩ := hq
  have hM1 := MR_fr hM hF1
  refine z_aload_n dL_law_600 rfl ?_
  refine z_aload_n dL_law_601 rfl ?_
  refine z_iload_n dL_law_602 rfl ?_
  refine z_iconst (v := nI 1) dL_law_603 rfl ?_
  refine zn_iadd dL_law_604 ?_
  refine l_sld dL_law_605 (by omega) hX ?_
  refine y_callV1 (M' := M_X9_match) dL_law_606 lm_L_88 cv_X9_match rfl (Nat.le_of_ble_eq_true rfl) (Nat.le_of_ble_eq_true rfl) rfl (r_match hA hM1 (X.2 (i + 1)) _) (fun r mu2 nu2 hq => ?_)
  obtain ⟨rfl, hM2, hF2⟩ := hq
  have hC2 := CR_fr hC1 hF2
  refine z_icmp_eq (tgt := 1020) dL_law_609 (by decide) (fun hc609 => ?_) (fun hc609 => by exact absurd rfl hc609)
  exact kk _ _ _ hA hC2 hM2
set_option maxRecDepth 4000 in
theorem l_judge {X : zX} {mu : zmu} {nu : znu} {A : AS} {i : Nat} (hX : X.1 ≤ 256) (hi : i + 4 ≤ X.1) (hA : AV A) (hC : CR A mu nu) (hM : MR A mu nu) (d : Nat) (kk : ∀ A' mu' nu', AV A' → CR A' mu' nu' → MR A' mu' nu' → zJ X M_law (d + 11) 0 0 1020 [.ref 1000000, .ref 0, .ref 66, .int (nI i)] [] 86 (zEE mu' nu') (zlift QL)) : zJ X M_law (d + 11) 0 0 614 [.ref 1000000, .ref 0, .ref 66, .int (nI i)] [] 86 (zEE mu nu) (zlift QL) := by
  refine z_aload_n dL_law_614 rfl ?_
  refine z_aload_n dL_law_615 rfl ?_
  refine z_iload_n dL_law_616 rfl ?_
  refine z_iconst (v := nI 1) dL_law_617 rfl ?_
  refine zn_iadd dL_law_618 ?_
  refine l_sld dL_law_619 (by omega) hX ?_
  refine z_aload_n dL_law_620 rfl ?_
  refine z_iload_n dL_law_621 rfl ?_
  refine z_iconst (v := nI 2) dL_law_622 rfl ?_
  refine zn_iadd dL_law_623 ?_
  refine l_sld dL_law_624 (by omega) hX ?_
  refine z_i2l dL_law_625 ?_
  refine z_bipush (v := nI 32) dL_law_626 rfl ?_
  refine z_lshl dL_law_628 ?_
  refine z_aload_n dL_law_629 rfl ?_
  refine z_iload_n dL_law_630 rfl ?_
  refine z_iconst (v := nI 3) dL_law_631 rfl ?_
  refine zn_iadd dL_law_632 ?_
  refine l_sld dL_law_633 (by omega) hX ?_
  refine z_i2l dL_law_634 ?_
  refine z_ldc2 dL_law_635 lk_L_89 ?_
  refine z_land dL_law_638 ?_
  refine z_lor dL_law_639 ?_
  refine y_callV2 (M' := M_X8_judge) dL_law_640 lm_L_91 cv_X8_judge rfl (Nat.le_of_ble_eq_true rfl) (Nat.le_of_ble_eq_true rfl) rfl (k_judge hA hC (X.2 (i + 1)) ((X.2 (i + 2)).toInt64 <<< ((nI 32).toInt64 &&& 63) ||| (X.2 (i + 3)).toInt64 &&& 4294967295) _) (fun r mu1 nu1 hq => ?_)
  obtain ⟨rfl, hC1, hF1⟩ := hq
  have hM1 := MR_fr hM hF1
  refine z_aload_n dL_law_643 rfl ?_
  refine z_aload_n dL_law_644 rfl ?_
  refine z_iload_n dL_law_645 rfl ?_
  refine z_iconst (v := nI 1) dL_law_646 rfl ?_
  refine zn_iadd dL_law_647 ?_
  refine l_sld dL_law_648 (by omega) hX ?_
  refine z_aload_n dL_law_649 rfl ?_
  refine z_iload_n dL_law_650 rfl ?_
  refine z_iconst (v := nI 2) dL_law_651 rfl ?_
  refine zn_iadd dL_law_652 ?_
  refine l_sld dL_law_653 (by omega) hX ?_
  refine z_i2l dL_law_654 ?_
  refine z_bipush (v := nI 32) dL_law_655 rfl ?_
  refine z_lshl dL_law_657 ?_
  refine z_aload_n dL_law_658 rfl ?_
  refine z_iload_n dL_law_659 rfl ?_
  refine z_iconst (v := nI 3) dL_law_660 rfl ?_
  refine zn_iadd dL_law_661 ?_
  refine l_sld dL_law_662 (by omega) hX ?_
  refine z_i2l dL_law_663 ?_
  refine z_ldc2 dL_law_664 lk_L_89 ?_
  refine z_land dL_law_667 ?_
  refine z_lor dL_law_668 ?_
  refine y_callV2 (M' := M_X9_judge) dL_law_669 lm_L_95 cv_X9_judge rfl (Nat.le_of_ble_eq_true rfl) (Nat.le_of_ble_eq_true rfl) rfl (r_judge hA hM1 (X.2 (i + 1)) ((X.2 (i + 2)).toInt64 <<< ((nI 32).toInt64 &&& 63) ||| (X.2 (i + 3)).toInt64 &&& 4294967295) _) (fun r mu2 nu2 hq => ?_)
  obtain ⟨rfl, hM2, hF2⟩ := hq
  have hC2 := CR_fr hC1 hF2
  refine z_icmp_eq (tgt := 1020) dL_law_672 (by decide) (fun hc672 => ?_) (fun hc672 => by exact absurd rfl hc672)
  exact kk _ _ _ hA hC2 hM2
set_option maxRecDepth 4000 in
theorem l_share {X : zX} {mu : zmu} {nu : znu} {A : AS} {i : Nat} (hX : X.1 ≤ 256) (hi : i + 4 ≤ X.1) (hA : AV A) (hC : CR A mu nu) (hM : MR A mu nu) (d : Nat) (kk : ∀ A' mu' nu', AV A' → CR A' mu' nu' → MR A' mu' nu' → zJ X M_law (d + 11) 0 0 1020 [.ref 1000000, .ref 0, .ref 66, .int (nI i)] [] 86 (zEE mu' nu') (zlift QL)) : zJ X M_law (d + 11) 0 0 677 [.ref 1000000, .ref 0, .ref 66, .int (nI i)] [] 86 (zEE mu nu) (zlift QL) := by
  refine z_aload_n dL_law_677 rfl ?_
  refine z_aload_n dL_law_678 rfl ?_
  refine z_iload_n dL_law_679 rfl ?_
  refine z_iconst (v := nI 1) dL_law_680 rfl ?_
  refine zn_iadd dL_law_681 ?_
  refine l_sld dL_law_682 (by omega) hX ?_
  refine z_aload_n dL_law_683 rfl ?_
  refine z_iload_n dL_law_684 rfl ?_
  refine z_iconst (v := nI 2) dL_law_685 rfl ?_
  refine zn_iadd dL_law_686 ?_
  refine l_sld dL_law_687 (by omega) hX ?_
  refine l_bool dL_law_688 dL_law_691 dL_law_692 dL_law_695 ?_
  refine y_callV2 (M' := M_X8_share) dL_law_696 lm_L_96 cv_X8_share rfl (Nat.le_of_ble_eq_true rfl) (Nat.le_of_ble_eq_true rfl) rfl (k_share hA hC (X.2 (i + 1)) (bz (X.2 (i + 2))) _) (fun r mu1 nu1 hq => ?_)
  obtain ⟨rfl, hC1, hF1⟩ := hq
  have hM1 := MR_fr hM hF1
  refine z_aload_n dL_law_699 rfl ?_
  refine z_aload_n dL_law_700 rfl ?_
  refine z_iload_n dL_law_701 rfl ?_
  refine z_iconst (v := nI 1) dL_law_702 rfl ?_
  refine zn_iadd dL_law_703 ?_
  refine l_sld dL_law_704 (by omega) hX ?_
  refine z_aload_n dL_law_705 rfl ?_
  refine z_iload_n dL_law_706 rfl ?_
  refine z_iconst (v := nI 2) dL_law_707 rfl ?_
  refine zn_iadd dL_law_708 ?_
  refine l_sld dL_law_709 (by omega) hX ?_
  refine l_bool dL_law_710 dL_law_713 dL_law_714 dL_law_717 ?_
  refine y_callV2 (M' := M_X9_share) dL_law_718 lm_L_100 cv_X9_share rfl (Nat.le_of_ble_eq_true rfl) (Nat.le_of_ble_eq_true rfl) rfl (r_share hA hM1 (X.2 (i + 1)) (bz (X.2 (i + 2))) _) (fun r mu2 nu2 hq => ?_)
  obtain ⟨rfl, hM2, hF2⟩ := hq
  have hC2 := CR_fr hC1 hF2
  refine z_icmp_eq (tgt := 1020) dL_law_721 (by decide) (fun hc721 => ?_) (fun hc721 => by exact absurd rfl hc721)
  exact kk _ _ _ hA hC2 hM2
set_option maxRecDepth 4000 in
theorem l_see {X : zX} {mu : zmu} {nu : znu} {A : AS} {i : Nat} (hX : X.1 ≤ 256) (hi : i + 4 ≤ X.1) (hA : AV A) (hC : CR A mu nu) (hM : MR A mu nu) (d : Nat) (kk : ∀ A' mu' nu', AV A' → CR A' mu' nu' → MR A' mu' nu' → zJ X M_law (d + 11) 0 0 1020 [.ref 1000000, .ref 0, .ref 66, .int (nI i)] [] 86 (zEE mu' nu') (zlift QL)) : zJ X M_law (d + 11) 0 0 726 [.ref 1000000, .ref 0, .ref 66, .int (nI i)] [] 86 (zEE mu nu) (zlift QL) := by
  refine z_aload_n dL_law_726 rfl ?_
  refine z_aload_n dL_law_727 rfl ?_
  refine z_iload_n dL_law_728 rfl ?_
  refine z_iconst (v := nI 1) dL_law_729 rfl ?_
  refine zn_iadd dL_law_730 ?_
  refine l_sld dL_law_731 (by omega) hX ?_
  refine z_aload_n dL_law_732 rfl ?_
  refine z_iload_n dL_law_733 rfl ?_
  refine z_iconst (v := nI 2) dL_law_734 rfl ?_
  refine zn_iadd dL_law_735 ?_
  refine l_sld dL_law_736 (by omega) hX ?_
  refine z_aload_n dL_law_737 rfl ?_
  refine z_iload_n dL_law_738 rfl ?_
  refine z_iconst (v := nI 3) dL_law_739 rfl ?_
  refine zn_iadd dL_law_740 ?_
  refine l_sld dL_law_741 (by omega) hX ?_
  refine y_callV3 (M' := M_X8_see) dL_law_742 lm_L_101 cv_X8_see rfl (Nat.le_of_ble_eq_true rfl) (Nat.le_of_ble_eq_true rfl) rfl (k_see hA hC (X.2 (i + 1)) (X.2 (i + 2)) (X.2 (i + 3)) _) (fun r mu1 nu1 hq => ?_)
  obtain ⟨rfl, hC1, hF1⟩ := hq
  have hM1 := MR_fr hM hF1
  refine z_aload_n dL_law_745 rfl ?_
  refine z_aload_n dL_law_746 rfl ?_
  refine z_iload_n dL_law_747 rfl ?_
  refine z_iconst (v := nI 1) dL_law_748 rfl ?_
  refine zn_iadd dL_law_749 ?_
  refine l_sld dL_law_750 (by omega) hX ?_
  refine z_aload_n dL_law_751 rfl ?_
  refine z_iload_n dL_law_752 rfl ?_
  refine z_iconst (v := nI 2) dL_law_753 rfl ?_
  refine zn_iadd dL_law_754 ?_
  refine l_sld dL_law_755 (by omega) hX ?_
  refine z_aload_n dL_law_756 rfl ?_
  refine z_iload_n dL_law_757 rfl ?_
  refine z_iconst (v := nI 3) dL_law_758 rfl ?_
  refine zn_iadd dL_law_759 ?_
  refine l_sld dL_law_760 (by omega) hX ?_
  refine y_callV3 (M' := M_X9_see) dL_law_761 lm_L_105 cv_X9_see rfl (Nat.le_of_ble_eq_true rfl) (Nat.le_of_ble_eq_true rfl) rfl (r_see hA hM1 (X.2 (i + 1)) (X.2 (i + 2)) (X.2 (i + 3)) _) (fun r mu2 nu2 hq => ?_)
  obtain ⟨rfl, hM2, hF2⟩ := hq
  have hC2 := CR_fr hC1 hF2
  refine z_icmp_eq (tgt := 1020) dL_law_764 (by decide) (fun hc764 => ?_) (fun hc764 => by exact absurd rfl hc764)
  exact kk _ _ _ (V_see hA (X.2 (i + 1)) (X.2 (i + 2)) (X.2 (i + 3))) hC2 hM2
set_option maxRecDepth 4000 in
theorem l_unsee {X : zX} {mu : zmu} {nu : znu} {A : AS} {i : Nat} (hX : X.1 ≤ 256) (hi : i + 4 ≤ X.1) (hA : AV A) (hC : CR A mu nu) (hM : MR A mu nu) (d : Nat) (kk : ∀ A' mu' nu', AV A' → CR A' mu' nu' → MR A' mu' nu' → zJ X M_law (d + 11) 0 0 1020 [.ref 1000000, .ref 0, .ref 66, .int (nI i)] [] 86 (zEE mu' nu') (zlift QL)) : zJ X M_law (d + 11) 0 0 769 [.ref 1000000, .ref 0, .ref 66, .int (nI i)] [] 86 (zEE mu nu) (zlift QL) := by
  refine z_aload_n dL_law_769 rfl ?_
  refine y_callV0 (M' := M_X8_unsee) dL_law_770 lm_L_106 cv_X8_unsee rfl (Nat.le_of_ble_eq_true rfl) (Nat.le_of_ble_eq_true rfl) rfl (k_unsee hA hC  _) (fun r mu1 nu1 hq => ?_)
  obtain ⟨rfl, hC1, hF1⟩ := hq
  have hM1 := MR_fr hM hF1
  refine z_aload_n dL_law_773 rfl ?_
  refine y_callV0 (M' := M_X9_unsee) dL_law_774 lm_L_109 cv_X9_unsee rfl (Nat.le_of_ble_eq_true rfl) (Nat.le_of_ble_eq_true rfl) rfl (r_unsee hA hM1  _) (fun r mu2 nu2 hq => ?_)
  obtain ⟨rfl, hM2, hF2⟩ := hq
  have hC2 := CR_fr hC1 hF2
  refine z_icmp_eq (tgt := 1020) dL_law_777 (by decide) (fun hc777 => ?_) (fun hc777 => by exact absurd rfl hc777)
  exact kk _ _ _ (V_unsee hA ) hC2 hM2
set_option maxRecDepth 4000 in
theorem l_stands {X : zX} {mu : zmu} {nu : znu} {A : AS} {i : Nat} (hX : X.1 ≤ 256) (hi : i + 4 ≤ X.1) (hA : AV A) (hC : CR A mu nu) (hM : MR A mu nu) (d : Nat) (kk : ∀ A' mu' nu', AV A' → CR A' mu' nu' → MR A' mu' nu' → zJ X M_law (d + 11) 0 0 1020 [.ref 1000000, .ref 0, .ref 66, .int (nI i)] [] 86 (zEE mu' nu') (zlift QL)) : zJ X M_law (d + 11) 0 0 782 [.ref 1000000, .ref 0, .ref 66, .int (nI i)] [] 86 (zEE mu nu) (zlift QL) := by
  refine z_aload_n dL_law_782 rfl ?_
  refine y_callV0 (M' := M_X8_stands) dL_law_783 lm_L_110 cv_X8_stands rfl (Nat.le_of_ble_eq_true rfl) (Nat.le_of_ble_eq_true rfl) rfl (k_stands hA hC  _) (fun r mu1 nu1 hq => ?_)
  obtain ⟨rfl, hC1, hF1⟩ := hq
  have hM1 := MR_fr hM hF1
  refine z_aload_n dL_law_786 rfl ?_
  refine y_callV0 (M' := M_X9_stands) dL_law_787 lm_L_113 cv_X9_stands rfl (Nat.le_of_ble_eq_true rfl) (Nat.le_of_ble_eq_true rfl) rfl (r_stands hA hM1  _) (fun r mu2 nu2 hq => ?_)
  obtain ⟨rfl, hM2, hF2⟩ := hq
  have hC2 := CR_fr hC1 hF2
  refine z_icmp_eq (tgt := 1020) dL_law_790 (by decide) (fun hc790 => ?_) (fun hc790 => by exact absurd rfl hc790)
  exact kk _ _ _ hA hC2 hM2
set_option maxRecDepth 4000 in
theorem l_rests {X : zX} {mu : zmu} {nu : znu} {A : AS} {i : Nat} (hX : X.1 ≤ 256) (hi : i + 4 ≤ X.1) (hA : AV A) (hC : CR A mu nu) (hM : MR A mu nu) (d : Nat) (kk : ∀ A' mu' nu', AV A' → CR A' mu' nu' → MR A' mu' nu' → zJ X M_law (d + 11) 0 0 1020 [.ref 1000000, .ref 0, .ref 66, .int (nI i)] [] 86 (zEE mu' nu') (zlift QL)) : zJ X M_law (d + 11) 0 0 795 [.ref 1000000, .ref 0, .ref 66, .int (nI i)] [] 86 (zEE mu nu) (zlift QL) := by
  refine z_aload_n dL_law_795 rfl ?_
  refine z_aload_n dL_law_796 rfl ?_
  refine z_iload_n dL_law_797 rfl ?_
  refine z_iconst (v := nI 1) dL_law_798 rfl ?_
  refine zn_iadd dL_law_799 ?_
  refine l_sld dL_law_800 (by omega) hX ?_
  refine z_aload_n dL_law_801 rfl ?_
  refine z_iload_n dL_law_802 rfl ?_
  refine z_iconst (v := nI 2) dL_law_803 rfl ?_
  refine zn_iadd dL_law_804 ?_
  refine l_sld dL_law_805 (by omega) hX ?_
  refine z_aload_n dL_law_806 rfl ?_
  refine z_iload_n dL_law_807 rfl ?_
  refine z_iconst (v := nI 3) dL_law_808 rfl ?_
  refine zn_iadd dL_law_809 ?_
  refine l_sld dL_law_810 (by omega) hX ?_
  refine y_callV3 (M' := M_X8_rests) dL_law_811 lm_L_114 cv_X8_rests rfl (Nat.le_of_ble_eq_true rfl) (Nat.le_of_ble_eq_true rfl) rfl (k_rests hA hC (X.2 (i + 1)) (X.2 (i + 2)) (X.2 (i + 3)) _) (fun r mu1 nu1 hq => ?_)
  obtain ⟨rfl, hC1, hF1⟩ := hq
  have hM1 := MR_fr hM hF1
  refine z_aload_n dL_law_814 rfl ?_
  refine z_aload_n dL_law_815 rfl ?_
  refine z_iload_n dL_law_816 rfl ?_
  refine z_iconst (v := nI 1) dL_law_817 rfl ?_
  refine zn_iadd dL_law_818 ?_
  refine l_sld dL_law_819 (by omega) hX ?_
  refine z_aload_n dL_law_820 rfl ?_
  refine z_iload_n dL_law_821 rfl ?_
  refine z_iconst (v := nI 2) dL_law_822 rfl ?_
  refine zn_iadd dL_law_823 ?_
  refine l_sld dL_law_824 (by omega) hX ?_
  refine z_aload_n dL_law_825 rfl ?_
  refine z_iload_n dL_law_826 rfl ?_
  refine z_iconst (v := nI 3) dL_law_827 rfl ?_
  refine zn_iadd dL_law_828 ?_
  refine l_sld dL_law_829 (by omega) hX ?_
  refine y_callV3 (M' := M_X9_rests) dL_law_830 lm_L_117 cv_X9_rests rfl (Nat.le_of_ble_eq_true rfl) (Nat.le_of_ble_eq_true rfl) rfl (r_rests hA hM1 (X.2 (i + 1)) (X.2 (i + 2)) (X.2 (i + 3)) _) (fun r mu2 nu2 hq => ?_)
  obtain ⟨rfl, hM2, hF2⟩ := hq
  have hC2 := CR_fr hC1 hF2
  refine z_icmp_eq (tgt := 1020) dL_law_833 (by decide) (fun hc833 => ?_) (fun hc833 => by exact absurd rfl hc833)
  exact kk _ _ _ hA hC2 hM2
set_option maxRecDepth 4000 in
theorem l_strays {X : zX} {mu : zmu} {nu : znu} {A : AS} {i : Nat} (hX : X.1 ≤ 256) (hi : i + 4 ≤ X.1) (hA : AV A) (hC : CR A mu nu) (hM : MR A mu nu) (d : Nat) (kk : ∀ A' mu' nu', AV A' → CR A' mu' nu' → MR A' mu' nu' → zJ X M_law (d + 11) 0 0 1020 [.ref 1000000, .ref 0, .ref 66, .int (nI i)] [] 86 (zEE mu' nu') (zlift QL)) : zJ X M_law (d + 11) 0 0 838 [.ref 1000000, .ref 0, .ref 66, .int (nI i)] [] 86 (zEE mu nu) (zlift QL) := by
  refine z_aload_n dL_law_838 rfl ?_
  refine z_aload_n dL_law_839 rfl ?_
  refine z_iload_n dL_law_840 rfl ?_
  refine z_iconst (v := nI 1) dL_law_841 rfl ?_
  refine zn_iadd dL_law_842 ?_
  refine l_sld dL_law_843 (by omega) hX ?_
  refine z_aload_n dL_law_844 rfl ?_
  refine z_iload_n dL_law_845 rfl ?_
  refine z_iconst (v := nI 2) dL_law_846 rfl ?_
  refine zn_iadd dL_law_847 ?_
  refine l_sld dL_law_848 (by omega) hX ?_
  refine z_aload_n dL_law_849 rfl ?_
  refine z_iload_n dL_law_850 rfl ?_
  refine z_iconst (v := nI 3) dL_law_851 rfl ?_
  refine zn_iadd dL_law_852 ?_
  refine l_sld dL_law_853 (by omega) hX ?_
  refine l_bool dL_law_854 dL_law_857 dL_law_858 dL_law_861 ?_
  refine y_callV3 (M' := M_X8_strays) dL_law_862 lm_L_118 cv_X8_strays rfl (Nat.le_of_ble_eq_true rfl) (Nat.le_of_ble_eq_true rfl) rfl (k_strays hA hC (X.2 (i + 1)) (X.2 (i + 2)) (bz (X.2 (i + 3))) _) (fun r mu1 nu1 hq => ?_)
  obtain ⟨rfl, hC1, hF1⟩ := hq
  have hM1 := MR_fr hM hF1
  refine z_aload_n dL_law_865 rfl ?_
  refine z_aload_n dL_law_866 rfl ?_
  refine z_iload_n dL_law_867 rfl ?_
  refine z_iconst (v := nI 1) dL_law_868 rfl ?_
  refine zn_iadd dL_law_869 ?_
  refine l_sld dL_law_870 (by omega) hX ?_
  refine z_aload_n dL_law_871 rfl ?_
  refine z_iload_n dL_law_872 rfl ?_
  refine z_iconst (v := nI 2) dL_law_873 rfl ?_
  refine zn_iadd dL_law_874 ?_
  refine l_sld dL_law_875 (by omega) hX ?_
  refine z_aload_n dL_law_876 rfl ?_
  refine z_iload_n dL_law_877 rfl ?_
  refine z_iconst (v := nI 3) dL_law_878 rfl ?_
  refine zn_iadd dL_law_879 ?_
  refine l_sld dL_law_880 (by omega) hX ?_
  refine l_bool dL_law_881 dL_law_884 dL_law_885 dL_law_888 ?_
  refine y_callV3 (M' := M_X9_strays) dL_law_889 lm_L_121 cv_X9_strays rfl (Nat.le_of_ble_eq_true rfl) (Nat.le_of_ble_eq_true rfl) rfl (r_strays hA hM1 (X.2 (i + 1)) (X.2 (i + 2)) (bz (X.2 (i + 3))) _) (fun r mu2 nu2 hq => ?_)
  obtain ⟨rfl, hM2, hF2⟩ := hq
  have hC2 := CR_fr hC1 hF2
  refine z_icmp_eq (tgt := 1020) dL_law_892 (by decide) (fun hc892 => ?_) (fun hc892 => by exact absurd rfl hc892)
  exact kk _ _ _ hA hC2 hM2
set_option maxRecDepth 4000 in
theorem l_seed {X : zX} {mu : zmu} {nu : znu} {A : AS} {i : Nat} (hX : X.1 ≤ 256) (hi : i + 4 ≤ X.1) (hA : AV A) (hC : CR A mu nu) (hM : MR A mu nu) (d : Nat) (kk : ∀ A' mu' nu', AV A' → CR A' mu' nu' → MR A' mu' nu' → zJ X M_law (d + 11) 0 0 1020 [.ref 1000000, .ref 0, .ref 66, .int (nI i)] [] 86 (zEE mu' nu') (zlift QL)) : zJ X M_law (d + 11) 0 0 897 [.ref 1000000, .ref 0, .ref 66, .int (nI i)] [] 86 (zEE mu nu) (zlift QL) := by
  refine z_aload_n dL_law_897 rfl ?_
  refine z_aload_n dL_law_898 rfl ?_
  refine z_iload_n dL_law_899 rfl ?_
  refine z_iconst (v := nI 1) dL_law_900 rfl ?_
  refine zn_iadd dL_law_901 ?_
  refine l_sld dL_law_902 (by omega) hX ?_
  refine z_i2l dL_law_903 ?_
  refine z_bipush (v := nI 32) dL_law_904 rfl ?_
  refine z_lshl dL_law_906 ?_
  refine z_aload_n dL_law_907 rfl ?_
  refine z_iload_n dL_law_908 rfl ?_
  refine z_iconst (v := nI 2) dL_law_909 rfl ?_
  refine zn_iadd dL_law_910 ?_
  refine l_sld dL_law_911 (by omega) hX ?_
  refine z_i2l dL_law_912 ?_
  refine z_ldc2 dL_law_913 lk_L_89 ?_
  refine z_land dL_law_916 ?_
  refine z_lor dL_law_917 ?_
  refine y_callV1 (M' := M_X8_seed) dL_law_918 lm_L_122 cv_X8_seed rfl (Nat.le_of_ble_eq_true rfl) (Nat.le_of_ble_eq_true rfl) rfl (k_seed hA hC ((X.2 (i + 1)).toInt64 <<< ((nI 32).toInt64 &&& 63) ||| (X.2 (i + 2)).toInt64 &&& 4294967295) _) (fun r mu1 nu1 hq => ?_)
  obtain ⟨rfl, hC1, hF1⟩ := hq
  have hM1 := MR_fr hM hF1
  refine z_aload_n dL_law_921 rfl ?_
  refine z_aload_n dL_law_922 rfl ?_
  refine z_iload_n dL_law_923 rfl ?_
  refine z_iconst (v := nI 1) dL_law_924 rfl ?_
  refine zn_iadd dL_law_925 ?_
  refine l_sld dL_law_926 (by omega) hX ?_
  refine z_i2l dL_law_927 ?_
  refine z_bipush (v := nI 32) dL_law_928 rfl ?_
  refine z_lshl dL_law_930 ?_
  refine z_aload_n dL_law_931 rfl ?_
  refine z_iload_n dL_law_932 rfl ?_
  refine z_iconst (v := nI 2) dL_law_933 rfl ?_
  refine zn_iadd dL_law_934 ?_
  refine l_sld dL_law_935 (by omega) hX ?_
  refine z_i2l dL_law_936 ?_
  refine z_ldc2 dL_law_937 lk_L_89 ?_
  refine z_land dL_law_940 ?_
  refine z_lor dL_law_941 ?_
  refine y_callV1 (M' := M_X9_seed) dL_law_942 lm_L_126 cv_X9_seed rfl (Nat.le_of_ble_eq_true rfl) (Nat.le_of_ble_eq_true rfl) rfl (r_seed hA hM1 ((X.2 (i + 1)).toInt64 <<< ((nI 32).toInt64 &&& 63) ||| (X.2 (i + 2)).toInt64 &&& 4294967295) _) (fun r mu2 nu2 hq => ?_)
  obtain ⟨rfl, hM2, hF2⟩ := hq
  have hC2 := CR_fr hC1 hF2
  refine z_lcmp dL_law_945 ?_
  rw [lg_self]
  refine z_if_eq (tgt := 1020) dL_law_946 (by decide) (fun hc946 => ?_) (fun hc946 => by exact absurd rfl hc946)
  exact kk _ _ _ (V_seed hA _) hC2 hM2
set_option maxRecDepth 4000 in
theorem l_nights {X : zX} {mu : zmu} {nu : znu} {A : AS} {i : Nat} (hX : X.1 ≤ 256) (hi : i + 4 ≤ X.1) (hA : AV A) (hC : CR A mu nu) (hM : MR A mu nu) (d : Nat) (kk : ∀ A' mu' nu', AV A' → CR A' mu' nu' → MR A' mu' nu' → zJ X M_law (d + 11) 0 0 1020 [.ref 1000000, .ref 0, .ref 66, .int (nI i)] [] 86 (zEE mu' nu') (zlift QL)) : zJ X M_law (d + 11) 0 0 951 [.ref 1000000, .ref 0, .ref 66, .int (nI i)] [] 86 (zEE mu nu) (zlift QL) := by
  refine z_aload_n dL_law_951 rfl ?_
  refine z_aload_n dL_law_952 rfl ?_
  refine z_iload_n dL_law_953 rfl ?_
  refine z_iconst (v := nI 1) dL_law_954 rfl ?_
  refine zn_iadd dL_law_955 ?_
  refine l_sld dL_law_956 (by omega) hX ?_
  refine y_callV1 (M' := M_X8_nights) dL_law_957 lm_L_127 cv_X8_nights rfl (Nat.le_of_ble_eq_true rfl) (Nat.le_of_ble_eq_true rfl) rfl (k_nights hA hC (X.2 (i + 1)) _) (fun r mu1 nu1 hq => ?_)
  obtain ⟨rfl, hC1, hF1⟩ := hq
  have hM1 := MR_fr hM hF1
  refine z_aload_n dL_law_960 rfl ?_
  refine z_aload_n dL_law_961 rfl ?_
  refine z_iload_n dL_law_962 rfl ?_
  refine z_iconst (v := nI 1) dL_law_963 rfl ?_
  refine zn_iadd dL_law_964 ?_
  refine l_sld dL_law_965 (by omega) hX ?_
  refine y_callV1 (M' := M_X9_nights) dL_law_966 lm_L_130 cv_X9_nights rfl (Nat.le_of_ble_eq_true rfl) (Nat.le_of_ble_eq_true rfl) rfl (r_nights hA hM1 (X.2 (i + 1)) _) (fun r mu2 nu2 hq => ?_)
  obtain ⟨rfl, hM2, hF2⟩ := hq
  have hC2 := CR_fr hC1 hF2
  refine z_icmp_eq (tgt := 1020) dL_law_969 (by decide) (fun hc969 => ?_) (fun hc969 => by exact absurd rfl hc969)
  exact kk _ _ _ (V_nights hA (X.2 (i + 1))) hC2 hM2
set_option maxRecDepth 4000 in
theorem l_keep {X : zX} {mu : zmu} {nu : znu} {A : AS} {i : Nat} (hX : X.1 ≤ 256) (hi : i + 4 ≤ X.1) (hA : AV A) (hC : CR A mu nu) (hM : MR A mu nu) (d : Nat) (kk : ∀ A' mu' nu', AV A' → CR A' mu' nu' → MR A' mu' nu' → zJ X M_law (d + 11) 0 0 1020 [.ref 1000000, .ref 0, .ref 66, .int (nI i)] [] 86 (zEE mu' nu') (zlift QL)) : zJ X M_law (d + 11) 0 0 974 [.ref 1000000, .ref 0, .ref 66, .int (nI i)] [] 86 (zEE mu nu) (zlift QL) := by
  refine z_aload_n dL_law_974 rfl ?_
  refine z_aload_n dL_law_975 rfl ?_
  refine z_iload_n dL_law_976 rfl ?_
  refine z_iconst (v := nI 1) dL_law_977 rfl ?_
  refine zn_iadd dL_law_978 ?_
  refine l_sld dL_law_979 (by omega) hX ?_
  refine y_callV1 (M' := M_X8_keep) dL_law_980 lm_L_131 cv_X8_keep rfl (Nat.le_of_ble_eq_true rfl) (Nat.le_of_ble_eq_true rfl) rfl (k_keep hA hC (X.2 (i + 1)) _) (fun r mu1 nu1 hq => ?_)
  obtain ⟨rfl, hC1, hF1⟩ := hq
  have hM1 := MR_fr hM hF1
  refine z_aload_n dL_law_983 rfl ?_
  refine z_aload_n dL_law_984 rfl ?_
  refine z_iload_n dL_law_985 rfl ?_
  refine z_iconst (v := nI 1) dL_law_986 rfl ?_
  refine zn_iadd dL_law_987 ?_
  refine l_sld dL_law_988 (by omega) hX ?_
  refine y_callV1 (M' := M_X9_keep) dL_law_989 lm_L_134 cv_X9_keep rfl (Nat.le_of_ble_eq_true rfl) (Nat.le_of_ble_eq_true rfl) rfl (r_keep hA hM1 (X.2 (i + 1)) _) (fun r mu2 nu2 hq => ?_)
  obtain ⟨rfl, hM2, hF2⟩ := hq
  have hC2 := CR_fr hC1 hF2
  refine z_icmp_eq (tgt := 1020) dL_law_992 (by decide) (fun hc992 => ?_) (fun hc992 => by exact absurd rfl hc992)
  exact kk _ _ _ (V_keep hA (X.2 (i + 1))) hC2 hM2
set_option maxRecDepth 4000 in
theorem l_goOn {X : zX} {mu : zmu} {nu : znu} {A : AS} {i : Nat} (hX : X.1 ≤ 256) (hi : i + 4 ≤ X.1) (hA : AV A) (hC : CR A mu nu) (hM : MR A mu nu) (d : Nat) (kk : ∀ A' mu' nu', AV A' → CR A' mu' nu' → MR A' mu' nu' → zJ X M_law (d + 11) 0 0 1020 [.ref 1000000, .ref 0, .ref 66, .int (nI i)] [] 86 (zEE mu' nu') (zlift QL)) : zJ X M_law (d + 11) 0 0 997 [.ref 1000000, .ref 0, .ref 66, .int (nI i)] [] 86 (zEE mu nu) (zlift QL) := by
  refine z_aload_n dL_law_997 rfl ?_
  refine z_aload_n dL_law_998 rfl ?_
  refine z_iload_n dL_law_999 rfl ?_
  refine z_iconst (v := nI 1) dL_law_1000 rfl ?_
  refine zn_iadd dL_law_1001 ?_
  refine l_sld dL_law_1002 (by omega) hX ?_
  refine y_callV1 (M' := M_X8_goOn) dL_law_1003 lm_L_135 cv_X8_goOn rfl (Nat.le_of_ble_eq_true rfl) (Nat.le_of_ble_eq_true rfl) rfl (k_goOn hA hC (X.2 (i + 1)) _) (fun r mu1 nu1 hq => ?_)
  obtain ⟨rfl, hC1, hF1⟩ := hq
  have hM1 := MR_fr hM hF1
  refine z_aload_n dL_law_1006 rfl ?_
  refine z_aload_n dL_law_1007 rfl ?_
  refine z_iload_n dL_law_1008 rfl ?_
  refine z_iconst (v := nI 1) dL_law_1009 rfl ?_
  refine zn_iadd dL_law_1010 ?_
  refine l_sld dL_law_1011 (by omega) hX ?_
  refine y_callV1 (M' := M_X9_goOn) dL_law_1012 lm_L_138 cv_X9_goOn rfl (Nat.le_of_ble_eq_true rfl) (Nat.le_of_ble_eq_true rfl) rfl (r_goOn hA hM1 (X.2 (i + 1)) _) (fun r mu2 nu2 hq => ?_)
  obtain ⟨rfl, hM2, hF2⟩ := hq
  have hC2 := CR_fr hC1 hF2
  refine z_icmp_eq (tgt := 1020) dL_law_1015 (by decide) (fun hc1015 => ?_) (fun hc1015 => by exact absurd rfl hc1015)
  exact kk _ _ _ (V_goOn hA (X.2 (i + 1))) hC2 hM2
set_option maxRecDepth 4000 in
theorem law_l {X : zX} (hX : X.1 ≤ 256) (d : Nat) : ∀ n i A mu nu, X.1 ≤ i + n → i ≤ 256 → AV A → CR A mu nu → MR A mu nu → zJ X M_law (d + 11) 0 0 18 [.ref 1000000, .ref 0, .ref 66, .int (nI i)] [] 86 (zEE mu nu) (zlift QL) := by
  intro n
  induction n with
  | zero =>
    intro i A mu nu hn hi hA hC hM
    refine z_iload_n dL_law_18 rfl ?_
    refine z_aload_n dL_law_19 rfl ?_
    refine z_slen dL_law_20 ?_
    refine z_iconst (v := nI 4) dL_law_21 rfl ?_
    refine z_isub dL_law_22 ?_
    refine z_icmp_gt (tgt := 1026) dL_law_23 (by decide) (fun hc => ?_) (fun hc => absurd ((law_cmp (by omega) (by omega)).mpr (by omega)) hc)
    refine z_iconst (v := nI 1) dL_law_1026 rfl ?_
    exact y_zreturn dL_law_1027 rfl (Or.inr rfl) rfl
  | succ n ih =>
    intro i A mu nu hn hi hA hC hM
    refine z_iload_n dL_law_18 rfl ?_
    refine z_aload_n dL_law_19 rfl ?_
    refine z_slen dL_law_20 ?_
    refine z_iconst (v := nI 4) dL_law_21 rfl ?_
    refine z_isub dL_law_22 ?_
    refine z_icmp_gt (tgt := 1026) dL_law_23 (by decide) (fun hc => ?_) (fun hc => ?_)
    · refine z_iconst (v := nI 1) dL_law_1026 rfl ?_
      exact y_zreturn dL_law_1027 rfl (Or.inr rfl) rfl
    · have hi4 : i + 4 ≤ X.1 := by
        refine Nat.le_of_not_lt (fun h => hc ((law_cmp (by omega) (by omega)).mpr (by omega)))
      have kk : ∀ A' mu' nu', AV A' → CR A' mu' nu' → MR A' mu' nu' → zJ X M_law (d + 11) 0 0 1020 [.ref 1000000, .ref 0, .ref 66, .int (nI i)] [] 86 (zEE mu' nu') (zlift QL) := fun A' mu' nu' h1 h2 h3 => by
        refine zn_iinc3 dL_law_1020 rfl ?_
        refine z_goto (tgt := 18) dL_law_1023 (by decide) ?_
        exact ih (i + 4) A' mu' nu' (by omega) (by omega) h1 h2 h3
      refine z_aload_n dL_law_26 rfl ?_
      refine z_iload_n dL_law_27 rfl ?_
      refine l_sld dL_law_28 (by omega) hX ?_
      refine z_bipush (v := nI 31) dL_law_29 rfl ?_
      refine z_iand dL_law_31 ?_
      obtain ⟨c, hc32, ec⟩ := and_31 (X.2 i)
      rw [ec]
      obtain rfl | rfl | rfl | rfl | rfl | rfl | rfl | rfl | rfl | rfl | rfl | rfl | rfl | rfl | rfl | rfl | rfl | rfl | rfl | rfl | rfl | rfl | rfl | rfl | rfl | rfl | rfl | rfl | rfl | h29 : c = 0 ∨ c = 1 ∨ c = 2 ∨ c = 3 ∨ c = 4 ∨ c = 5 ∨ c = 6 ∨ c = 7 ∨ c = 8 ∨ c = 9 ∨ c = 10 ∨ c = 11 ∨ c = 12 ∨ c = 13 ∨ c = 14 ∨ c = 15 ∨ c = 16 ∨ c = 17 ∨ c = 18 ∨ c = 19 ∨ c = 20 ∨ c = 21 ∨ c = 22 ∨ c = 23 ∨ c = 24 ∨ c = 25 ∨ c = 26 ∨ c = 27 ∨ c = 28 ∨ 28 < c := by omega
      · exact z_tableIn (off := 132) (tgt := 164) dL_law_32 (by decide) (by decide) rfl (by decide) (l_write hX hi4 hA hC hM d kk)
      · exact z_tableIn (off := 155) (tgt := 187) dL_law_32 (by decide) (by decide) rfl (by decide) (l_wipe hX hi4 hA hC hM d kk)
      · exact z_tableIn (off := 168) (tgt := 200) dL_law_32 (by decide) (by decide) rfl (by decide) (l_fault hX hi4 hA hC hM d kk)
      · exact z_tableIn (off := 181) (tgt := 213) dL_law_32 (by decide) (by decide) rfl (by decide) (l_paper hX hi4 hA hC hM d kk)
      · exact z_tableIn (off := 194) (tgt := 226) dL_law_32 (by decide) (by decide) rfl (by decide) (l_about hX hi4 hA hC hM d kk)
      · exact z_tableIn (off := 217) (tgt := 249) dL_law_32 (by decide) (by decide) rfl (by decide) (l_cell hX hi4 hA hC hM d kk)
      · exact z_tableIn (off := 240) (tgt := 272) dL_law_32 (by decide) (by decide) rfl (by decide) (l_beside hX hi4 hA hC hM d kk)
      · exact z_tableIn (off := 299) (tgt := 331) dL_law_32 (by decide) (by decide) rfl (by decide) (l_boy hX hi4 hA hC hM d kk)
      · exact z_tableIn (off := 332) (tgt := 364) dL_law_32 (by decide) (by decide) rfl (by decide) (l_step hX hi4 hA hC hM d kk)
      · exact z_tableIn (off := 365) (tgt := 397) dL_law_32 (by decide) (by decide) rfl (by decide) (l_call hX hi4 hA hC hM d kk)
      · exact z_tableIn (off := 388) (tgt := 420) dL_law_32 (by decide) (by decide) rfl (by decide) (l_cut hX hi4 hA hC hM d kk)
      · exact z_tableIn (off := 411) (tgt := 443) dL_law_32 (by decide) (by decide) rfl (by decide) (l_undo hX hi4 hA hC hM d kk)
      · exact z_tableIn (off := 424) (tgt := 456) dL_law_32 (by decide) (by decide) rfl (by decide) (l_far hX hi4 hA hC hM d kk)
      · exact z_tableIn (off := 447) (tgt := 479) dL_law_32 (by decide) (by decide) rfl (by decide) (l_reach hX hi4 hA hC hM d kk)
      · exact z_tableIn (off := 480) (tgt := 512) dL_law_32 (by decide) (by decide) rfl (by decide) (l_again hX hi4 hA hC hM d kk)
      · exact z_tableIn (off := 513) (tgt := 545) dL_law_32 (by decide) (by decide) rfl (by decide) (l_alike hX hi4 hA hC hM d kk)
      · exact z_tableIn (off := 536) (tgt := 568) dL_law_32 (by decide) (by decide) rfl (by decide) (l_calls hX hi4 hA hC hM d kk)
      · exact z_tableIn (off := 559) (tgt := 591) dL_law_32 (by decide) (by decide) rfl (by decide) (l_match hX hi4 hA hC hM d kk)
      · exact z_tableIn (off := 582) (tgt := 614) dL_law_32 (by decide) (by decide) rfl (by decide) (l_judge hX hi4 hA hC hM d kk)
      · exact z_tableIn (off := 645) (tgt := 677) dL_law_32 (by decide) (by decide) rfl (by decide) (l_share hX hi4 hA hC hM d kk)
      · exact z_tableIn (off := 694) (tgt := 726) dL_law_32 (by decide) (by decide) rfl (by decide) (l_see hX hi4 hA hC hM d kk)
      · exact z_tableIn (off := 737) (tgt := 769) dL_law_32 (by decide) (by decide) rfl (by decide) (l_unsee hX hi4 hA hC hM d kk)
      · exact z_tableIn (off := 750) (tgt := 782) dL_law_32 (by decide) (by decide) rfl (by decide) (l_stands hX hi4 hA hC hM d kk)
      · exact z_tableIn (off := 763) (tgt := 795) dL_law_32 (by decide) (by decide) rfl (by decide) (l_rests hX hi4 hA hC hM d kk)
      · exact z_tableIn (off := 806) (tgt := 838) dL_law_32 (by decide) (by decide) rfl (by decide) (l_strays hX hi4 hA hC hM d kk)
      · exact z_tableIn (off := 865) (tgt := 897) dL_law_32 (by decide) (by decide) rfl (by decide) (l_seed hX hi4 hA hC hM d kk)
      · exact z_tableIn (off := 919) (tgt := 951) dL_law_32 (by decide) (by decide) rfl (by decide) (l_nights hX hi4 hA hC hM d kk)
      · exact z_tableIn (off := 942) (tgt := 974) dL_law_32 (by decide) (by decide) rfl (by decide) (l_keep hX hi4 hA hC hM d kk)
      · exact z_tableIn (off := 965) (tgt := 997) dL_law_32 (by decide) (by decide) rfl (by decide) (l_goOn hX hi4 hA hC hM d kk)
      · have hx : (nI c).toInt = c := nI_toInt (by omega)
        exact z_tableOut (tgt := 1020) dL_law_32 (Or.inr (by rw [hx]; omega)) (by decide) (kk A mu nu hA hC hM)
set_option maxRecDepth 4000 in
theorem law_all {X : zX} (hX : X.1 ≤ 256) : zJ X M_law 1000 86 5032 0 [.ref 1000000, zu, zu, zu] [] 0 EI (zlift QL) := by
  refine i_make (M' := M_X8_init) (d := 999) (k := 20) (q := 2479) (k1 := 65) (q1 := 2540) (N := 13) (n := 0) (m := 66) (pcc := 7) (Lc := [.ref 0, zu]) dL_law_0 lc_L_7 (by decide) dL_law_3 dL_law_4 (Or.inl lm_L_9) im_X8_init rfl rfl cal_X8_init (Nat.le_of_ble_eq_true rfl) (Nat.le_of_ble_eq_true rfl) rfl rfl rfl (n_X8 994) ?_
  refine z_astore1 dL_law_7 rfl ?_
  refine i_make (M' := M_X9_init) (d := 999) (k := 0) (q := 0) (k1 := 19) (q1 := 2443) (N := 36) (n := 66) (m := 86) (pcc := 15) (Lc := [.ref 66]) dL_law_8 lc_L_10 (by decide) dL_law_11 dL_law_12 (Or.inl lm_L_12) im_X9_init rfl rfl cal_X9_init (Nat.le_of_ble_eq_true rfl) (Nat.le_of_ble_eq_true rfl) rfl rfl rfl (n_X9 (fun _ _ => rfl) 998) ?_
  refine z_astore2 dL_law_15 rfl ?_
  refine z_iconst (v := nI 0) dL_law_16 rfl ?_
  refine z_istore3 dL_law_17 rfl ?_
  exact law_l hX 989 X.1 0 A0 muI nuI (by omega) (by omega) AV0 CR0 MR0
/-- from the entry, for every script of at most 256 ints, the law comes to its end with true -/
theorem whole_start {p : Program} {e : Env} {s : State} {m : MethodId} {below : List Frame} {meth : Method} {c : Code} (l : Launch) {b L : Nat} {xs : Nat → Int32} (hL : L ≤ 256) (C0 : lw_At p s m meth c b L xs) : W p l e room_1 s m #[Value.ref b] below meth c s.heap [] 0 0 (lw_Z below #[Value.ref b] s) (entryFrame m ([Value.ref b] : List Value).toArray 4) :=
  zstart l C0 (k := 86) (q := 5032) (by decide) (by decide) (h0 := EI) (Q := zlift QL) (fun r n h hq => by obtain ⟨-, mu, nu, -, h1⟩ := hq; exact h1) (law_all (X := (L, xs)) hL)
