theorem zJ_mono {X : zX} {M : zM} {d k q pc : Nat} {L S : List Value} {n : Nat} {h : zH} {Q Q' : zq} (kk : zJ X M d k q pc L S n h (zlift Q)) (hq : ∀ r mu nu, Q r mu nu → Q' r mu nu) : zJ X M d k q pc L S n h (zlift Q') := by
  intro D cy b0 cs l p e R s m args below meth c Qw H locs cells slots ls mc ms h1 h2 h3 h4 h5 h6 h7 h8
  refine kk D cy b0 cs l p e R s m args below meth c Qw H locs cells slots ls mc ms h1 h2 h3 h4 h5 h6 h7 (fun r n' h' H' locs' slots' pc' ls' hQ => ?_)
  obtain ⟨e1, mu, nu, e2, hQ⟩ := hQ
  exact h8 r n' h' H' locs' slots' pc' ls' ⟨e1, mu, nu, e2, hq r mu nu hQ⟩
theorem inr_neg {x : Int32} {n : Nat} (h : x < 0) : inr x n = false := decide_eq_false (fun e => absurd h (Int32.not_lt.mpr e.1))
theorem inr_ge {x : Int32} {n : Nat} (h : ¬ x < nI n) : inr x n = false := decide_eq_false (fun e => h e.2)
theorem inr_in {x : Int32} {n : Nat} (h0 : ¬ x < 0) (h : x < nI n) : inr x n = true := decide_eq_true ⟨Int32.not_lt.mp h0, h⟩
theorem i32_les {x : Int32} {n : Nat} (hn : n + 1 < 2 ^ 31) : x ≤ nI n ↔ x < nI (n + 1) := by
  rw [Int32.le_iff_toInt_le, Int32.lt_iff_toInt_lt, nI_toInt (by omega), nI_toInt hn]; omega
def in1 (x : Int32) (m : Nat) : Bool := decide (nI 1 ≤ x ∧ x ≤ nI m)
theorem in1_t {x : Int32} {m : Nat} (h : in1 x m = true) (hm : m + 1 < 2 ^ 31) : ∃ b, 1 ≤ b ∧ b ≤ m ∧ x = nI b := by
  have g := of_decide_eq_true h
  have g1 := g.1
  rw [Int32.le_iff_toInt_le, nI_toInt (by decide)] at g1
  obtain ⟨b, hb, rfl⟩ := inr_t (x := x) (n := m + 1) (decide_eq_true ⟨by rw [Int32.le_iff_toInt_le]; simp; omega, (i32_les hm).mp g.2⟩) hm
  rw [nI_toInt (by omega)] at g1
  exact ⟨b, by omega, by omega, rfl⟩
/-- the cells to call at -/
noncomputable def cvS (p : PT) (P : Nat → Nat) : Nat := Classical.epsilon (CVb p P)
theorem cvS_eq {p : PT} (hp : PV p) {P : Nat → Nat} {S : Nat} (h : CVb p P S) : cvS p P = S := cvB_uniq hp.n20 (Classical.epsilon_spec (p := CVb p P) ⟨S, h⟩) h
/-- the best drop: which, and how many rows are unlike by it -/
def mtc (u : Nat → Nat) : Nat → Nat × Nat
  | 0 => (0, u 0)
  | n + 1 => if u (n + 1) < (mtc u n).2 then (n + 1, u (n + 1)) else mtc u n
theorem mtc_s (u : Nat → Nat) (n : Nat) : mtc u (n + 1) = if u (n + 1) < (mtc u n).2 then (n + 1, u (n + 1)) else mtc u n := rfl
theorem mtc_le {u : Nat → Nat} {m : Nat} (h : ∀ i, u i ≤ m) : ∀ n, (mtc u n).1 ≤ n ∧ (mtc u n).2 ≤ m
  | 0 => ⟨Nat.le_refl _, h 0⟩
  | n + 1 => by
    have g := mtc_le h n
    unfold mtc
    split
    · exact ⟨Nat.le_refl _, h _⟩
    · exact ⟨by omega, g.2⟩
def f_far (A : AS) (x : Int32) : Int32 × AS := (if inr x (pb (aP A)) = true then o9 (farO (aP A) (aN A).2 (ix x) ((aN A).1 (ix x))) else -1, A)
def f_reach (A : AS) (x y : Int32) : Int32 × AS := (if inr x (pb (aP A)) = true then (if inr y 10 = true then nI (rch (aP A) (aN A).2 (ix x) ((aN A).1 (ix x)) (ix y)) else -2) else -1, A)
def f_again (A : AS) (x y : Int32) : Int32 × AS := (if inr x (pb (aP A)) = true then (if inr y 4 = true then o9 (agn (aP A) (aN A).2 (ix x) ((aN A).1 (ix x) % 20) (ix y)) else -2) else -1, A)
def f_alike (A : AS) (x : Int32) : Int32 × AS := (if inr x (an A) = true then nI (bset (lke (aP A) (aN A).2 (ix x)) (an A)) else -1, A)
noncomputable def f_calls (A : AS) (x : Int32) : Int32 × AS := (if x = 0 then nI (cvS (aP A) (aN A).1) else if x = nI 1 then nI (popc (cvS (aP A) (aN A).1)) else -2, A)
def mtA (A : AS) : Nat × Nat := mtc (unl (aP A) (aN A).2) (ph (aP A) - 1)
def f_match (A : AS) (x : Int32) : Int32 × AS := (if x = 0 then nI (mtA A).1 else if x = nI 1 then nI (mtA A).2 else -2, A)
set_option maxRecDepth 4000 in
theorem k_step {X : zX} {mu : zmu} {nu : znu} {A : AS} (hA : AV A) (hC : CR A mu nu) (x y : Int32) (d : Nat) : zJ X M_X8_step (d + 10) 0 0 0 [.ref 0, .int x, .int y] [] 86 (zEE (mu) (nu)) (zlift (QC (f_step A x y) mu nu)) := by
  obtain ⟨hP, hS, hR, hK, hE, hT, hSR, hD⟩ := id hC
  have hp := hA.1
  have hV := hA.2.1
  have h20 := hA.n
  have h5 := hA.b
  obtain ⟨nx, r1, r2, r3, r4⟩ := id hR
  obtain ⟨hC2, hfr⟩ := CR_rem hA hC r1 r4
  obtain ⟨hP2, hS2, -⟩ := id hC2
  refine z_aload_n dX8_step_0 rfl ?_
  refine y_getR dX8_step_1 lf_X8_19 rfl rfl ?_
  refine z_iload_n dX8_step_4 rfl ?_
  refine y_callV1x (M' := M_X3_hasBoy) dX8_step_5 lm_X8_139 cv_X3_hasBoy rfl (Nat.le_of_ble_eq_true rfl) (Nat.le_of_ble_eq_true rfl) rfl (c_hasBoy hp hP x _) ?_
  refine zb_if_ne (tgt := 13) dX8_step_8 (by decide) (fun hc8 => ?_) (fun hc8 => ?_)
  · have g : inr x (pb (aP A)) = true := hc8
    obtain ⟨b, hb, rfl⟩ := inr_t (show inr x (pb (aP A)) = true from g) (by omega)
    refine z_iload_n dX8_step_13 rfl ?_
    refine y_callS1x (M' := M_X8_isWay) dX8_step_14 lm_X8_132 cs_X8_isWay (Nat.le_of_ble_eq_true rfl) (Nat.le_of_ble_eq_true rfl) rfl (c_isWay y _) ?_
    refine zb_if_ne (tgt := 23) dX8_step_17 (by decide) (fun hc17 => ?_) (fun hc17 => ?_)
    · have g2 : inr y 4 = true := hc17
      obtain ⟨w, hw, rfl⟩ := inr_t (show inr y (4) = true from g2) (by omega)
      refine z_aload_n dX8_step_23 rfl ?_
      refine y_getR dX8_step_24 lf_X8_28 rfl rfl ?_
      refine z_iload_n dX8_step_27 rfl ?_
      refine z_aload_n dX8_step_28 rfl ?_
      refine y_getR dX8_step_29 lf_X8_28 rfl rfl ?_
      refine y_getR dX8_step_32 lf_X8_142 rfl rfl ?_
      refine z_iload_n dX8_step_35 rfl ?_
      refine y_ialde dX8_step_36 rfl (by decide) (by omega) (hS.1 b hb) ?_
      refine z_iload_n dX8_step_37 rfl ?_
      refine y_callV3x (M' := M_X4_placeOn) dX8_step_38 lm_X8_164 cv_X4_placeOn rfl (Nat.le_of_ble_eq_true rfl) (Nat.le_of_ble_eq_true rfl) rfl (c_placeOn hp hP sAt10 hb (hV.1 b hb).1 (hV.1 b hb).2 hw hS.2 hV.2 _) ?_
      refine z_iconst (v := -1) dX8_step_41 rfl ?_
      refine z_icmp_ne (tgt := 48) dX8_step_42 (by decide) (fun hc42 => ?_) (fun hc42 => ?_)
      · obtain ⟨q, hpo⟩ := Option.ne_none_iff_exists'.mp (fun e : pon (aP A) (aN A).2 b ((aN A).1 b) w = none => hc42 (by rw [e]; rfl))
        have hq98 := (pon_ok hp hb (hV.1 b hb).2 (hV.1 b hb).1 hw hpo).1
        refine z_aload_n dX8_step_48 rfl ?_
        refine y_getR dX8_step_49 lf_X8_38 rfl rfl ?_
        refine z_aload_n dX8_step_52 rfl ?_
        refine y_getR dX8_step_53 lf_X8_28 rfl rfl ?_
        refine y_callV1x (M' := M_X0_remember) dX8_step_56 lm_X8_168 cv_X0_remember rfl (Nat.le_of_ble_eq_true rfl) (Nat.le_of_ble_eq_true rfl) rfl (c_remember sAt10 r2 r3 r1 hA.2.2.1.1 _) ?_
        refine z_aload_n dX8_step_59 rfl ?_
        refine y_getR dX8_step_60 lf_X8_28 rfl rfl ?_
        refine z_iload_n dX8_step_63 rfl ?_
        refine z_iload_n dX8_step_64 rfl ?_
        refine y_callV2 (M' := M_X4_goes) dX8_step_65 lm_X8_172 cv_X4_goes rfl (Nat.le_of_ble_eq_true rfl) (Nat.le_of_ble_eq_true rfl) rfl (q_goes hp hP2 sAt10 hS2 hV hb hw _) (fun r mu1 nu1 hq => ?_)
        obtain ⟨rfl, rfl, hS3, ho⟩ := hq
        have eg : (goS (aP A) (aN A) b w).1 b = q := by simp [goS, hpo, upP]
        refine z_pop dX8_step_68 rfl ?_
        refine z_aload_n dX8_step_69 rfl ?_
        refine y_getR dX8_step_70 lf_X8_28 rfl rfl ?_
        refine y_getR dX8_step_73 lf_X8_142 rfl rfl ?_
        refine z_iload_n dX8_step_76 rfl ?_
        refine y_ialde dX8_step_77 rfl (by decide) (by omega) ((hS3.1 b hb).trans (congrArg nI eg)) ?_
        refine y_callS1x (M' := M_X8_cellOf) dX8_step_78 lm_X8_146 cs_X8_cellOf (Nat.le_of_ble_eq_true rfl) (Nat.le_of_ble_eq_true rfl) rfl (c_cellOf _ (by omega) _) ?_
        exact y_ireturn dX8_step_81 rfl (QC_of (A' := pshN A (goS (aP A) (aN A) b w)) (by simp [f_step, g, g2, ix_nI (show b < 2 ^ 31 by omega), ix_nI (show w < 2 ^ 31 by omega), hpo]) (CR_now hC2 ho hS3) ⟨fun z hz => (ho z (by omega) (by omega)).trans (hfr z (by omega)), rfl⟩)
      · have hpo := (oI_m1 (fun q e => by have := (pon_ok hp hb (hV.1 b hb).2 (hV.1 b hb).1 hw e).1; omega)).mp hc42
        refine z_bipush (v := -3) dX8_step_45 rfl ?_
        exact y_ireturn dX8_step_47 rfl (QC_rf hC (by simp [f_step, g, g2, ix_nI (show b < 2 ^ 31 by omega), ix_nI (show w < 2 ^ 31 by omega), hpo]))
    · have g2 : inr y 4 = false := hc17
      refine z_bipush (v := -2) dX8_step_20 rfl ?_
      exact y_ireturn dX8_step_22 rfl (QC_rf hC (by simp [f_step, g, g2]))
  · have g : inr x (pb (aP A)) = false := hc8
    refine z_iconst (v := -1) dX8_step_11 rfl ?_
    exact y_ireturn dX8_step_12 rfl (QC_rf hC (by simp [f_step, g]))
set_option maxRecDepth 4000 in
theorem k_call {X : zX} {mu : zmu} {nu : znu} {A : AS} (hA : AV A) (hC : CR A mu nu) (x : Int32) (d : Nat) : zJ X M_X8_call (d + 10) 0 0 0 [.ref 0, .int x] [] 86 (zEE (mu) (nu)) (zlift (QC (f_call A x) mu nu)) := by
  obtain ⟨hP, hS, hR, hK, hE, hT, hSR, hD⟩ := id hC
  have hp := hA.1
  have hV := hA.2.1
  have h20 := hA.n
  have h5 := hA.b
  obtain ⟨nx, r1, r2, r3, r4⟩ := id hR
  obtain ⟨hC2, hfr⟩ := CR_rem hA hC r1 r4
  obtain ⟨hP2, hS2, -⟩ := id hC2
  refine z_aload_n dX8_call_0 rfl ?_
  refine y_getR dX8_call_1 lf_X8_19 rfl rfl ?_
  refine z_iload_n dX8_call_4 rfl ?_
  refine y_callV1x (M' := M_X3_hasCell) dX8_call_5 lm_X8_126 cv_X3_hasCell rfl (Nat.le_of_ble_eq_true rfl) (Nat.le_of_ble_eq_true rfl) rfl (c_hasCell hp hP x _) ?_
  refine zb_if_ne (tgt := 13) dX8_call_8 (by decide) (fun hc8 => ?_) (fun hc8 => ?_)
  · have g : inr x (an A) = true := hc8
    obtain ⟨c, hc, rfl⟩ := inr_t (show inr x (an A) = true from g) (by omega)
    refine z_aload_n dX8_call_13 rfl ?_
    refine y_getR dX8_call_14 lf_X8_38 rfl rfl ?_
    refine z_aload_n dX8_call_17 rfl ?_
    refine y_getR dX8_call_18 lf_X8_28 rfl rfl ?_
    refine y_callV1x (M' := M_X0_remember) dX8_call_21 lm_X8_168 cv_X0_remember rfl (Nat.le_of_ble_eq_true rfl) (Nat.le_of_ble_eq_true rfl) rfl (c_remember sAt10 r2 r3 r1 hA.2.2.1.1 _) ?_
    refine z_aload_n dX8_call_24 rfl ?_
    refine y_getR dX8_call_25 lf_X8_28 rfl rfl ?_
    refine z_iload_n dX8_call_28 rfl ?_
    refine y_callV1 (M' := M_X4_bringHome) dX8_call_29 lm_X8_176 cv_X4_bringHome rfl (Nat.le_of_ble_eq_true rfl) (Nat.le_of_ble_eq_true rfl) rfl (q_bring hp hP2 sAt10 hS2 hV hc _) (fun r mu1 nu1 hq => ?_)
    obtain ⟨rfl, rfl, hS3, ho⟩ := hq
    exact y_ireturn dX8_call_32 rfl (QC_of (A' := pshN A (brS' (aP A) (aN A) c)) (by simp [f_call, g, ix_nI (show c < 2 ^ 31 by omega)]; rfl) (CR_now hC2 ho hS3) ⟨fun z hz => (ho z (by omega) (by omega)).trans (hfr z (by omega)), rfl⟩)
  · have g : inr x (an A) = false := hc8
    refine z_iconst (v := -1) dX8_call_11 rfl ?_
    exact y_ireturn dX8_call_12 rfl (QC_rf hC (by simp [f_call, g]))
set_option maxRecDepth 4000 in
theorem k_cut {X : zX} {mu : zmu} {nu : znu} {A : AS} (hA : AV A) (hC : CR A mu nu) (x : Int32) (d : Nat) : zJ X M_X8_cut (d + 10) 0 0 0 [.ref 0, .int x] [] 86 (zEE (mu) (nu)) (zlift (QC (f_cut A x) mu nu)) := by
  obtain ⟨hP, hS, hR, hK, hE, hT, hSR, hD⟩ := id hC
  have hp := hA.1
  have hV := hA.2.1
  have h20 := hA.n
  have h5 := hA.b
  obtain ⟨nx, r1, r2, r3, r4⟩ := id hR
  obtain ⟨hC2, hfr⟩ := CR_rem hA hC r1 r4
  obtain ⟨hP2, hS2, -⟩ := id hC2
  refine z_aload_n dX8_cut_0 rfl ?_
  refine y_getR dX8_cut_1 lf_X8_19 rfl rfl ?_
  refine z_iload_n dX8_cut_4 rfl ?_
  refine y_callV1x (M' := M_X3_hasCell) dX8_cut_5 lm_X8_126 cv_X3_hasCell rfl (Nat.le_of_ble_eq_true rfl) (Nat.le_of_ble_eq_true rfl) rfl (c_hasCell hp hP x _) ?_
  refine zb_if_ne (tgt := 13) dX8_cut_8 (by decide) (fun hc8 => ?_) (fun hc8 => ?_)
  · have g : inr x (an A) = true := hc8
    obtain ⟨c, hc, rfl⟩ := inr_t (show inr x (an A) = true from g) (by omega)
    refine z_aload_n dX8_cut_13 rfl ?_
    refine y_getR dX8_cut_14 lf_X8_28 rfl rfl ?_
    refine z_iload_n dX8_cut_17 rfl ?_
    refine y_callV1x (M' := M_X4_kindAt) dX8_cut_18 lm_X8_129 cv_X4_kindAt rfl (Nat.le_of_ble_eq_true rfl) (Nat.le_of_ble_eq_true rfl) rfl (c_kindAt hp hP sAt10 hc hS.2 hV.2 _) ?_
    have hk3 := kdk_le hp (cut := (aN A).2) hc
    refine z_iconst (v := nI 1) dX8_cut_21 rfl ?_
    refine zn_icmp_eq (tgt := 28) dX8_cut_22 (by decide) (by omega) (by omega) (fun hc22 => ?_) (fun hc22 => ?_)
    · refine z_aload_n dX8_cut_28 rfl ?_
      refine y_getR dX8_cut_29 lf_X8_38 rfl rfl ?_
      refine z_aload_n dX8_cut_32 rfl ?_
      refine y_getR dX8_cut_33 lf_X8_28 rfl rfl ?_
      refine y_callV1x (M' := M_X0_remember) dX8_cut_36 lm_X8_168 cv_X0_remember rfl (Nat.le_of_ble_eq_true rfl) (Nat.le_of_ble_eq_true rfl) rfl (c_remember sAt10 r2 r3 r1 hA.2.2.1.1 _) ?_
      refine z_aload_n dX8_cut_39 rfl ?_
      refine y_getR dX8_cut_40 lf_X8_28 rfl rfl ?_
      refine z_iload_n dX8_cut_43 rfl ?_
      refine y_callV1 (M' := M_X4_cutAway) dX8_cut_44 lm_X8_179 cv_X4_cutAway rfl (Nat.le_of_ble_eq_true rfl) (Nat.le_of_ble_eq_true rfl) rfl (q_cut (p := aP A) sAt10 hS2 (by omega) _) (fun r mu1 nu1 hq => ?_)
      obtain ⟨rfl, rfl, hS3, ho⟩ := hq
      have hP3 := only_P hP2 ho (by decide)
      have hV3 := SVs_cu hV (show c < 20 by omega)
      refine z_aload_n dX8_cut_47 rfl ?_
      refine y_getR dX8_cut_48 lf_X8_28 rfl rfl ?_
      refine z_iconst (v := nI 1) dX8_cut_51 rfl ?_
      refine y_callV1x (M' := M_X4_cellsOfKind) dX8_cut_52 lm_X8_115 cv_X4_cellsOfKind rfl (Nat.le_of_ble_eq_true rfl) (Nat.le_of_ble_eq_true rfl) rfl (c_cellsOfKind (P := (aN A).1) hp hP3 sAt10 hS3 hV3 1 (by decide) _) ?_
      refine y_callS1x (M' := M_J6_bitCount_0f7a4) dX8_cut_55 lm_X8_183 cs_J6_bitCount_0f7a4 (Nat.le_of_ble_eq_true rfl) (Nat.le_of_ble_eq_true rfl) rfl (c_bitCount (Nat.lt_of_lt_of_le (bset_lt _ _) (Nat.pow_le_pow_right (by decide) h20)) _) ?_
      rw [popc_bset h20]
      exact y_ireturn dX8_cut_58 rfl (QC_of (A' := pshN A (cuS (aN A) c)) (by simp [f_cut, g, ix_nI (show c < 2 ^ 31 by omega), hc22]; rfl) (CR_now hC2 ho hS3) ⟨fun z hz => (ho z (by omega) (by omega)).trans (hfr z (by omega)), rfl⟩)
    · refine z_bipush (v := -3) dX8_cut_25 rfl ?_
      exact y_ireturn dX8_cut_27 rfl (QC_rf hC (by simp [f_cut, g, ix_nI (show c < 2 ^ 31 by omega), hc22]))
  · have g : inr x (an A) = false := hc8
    refine z_iconst (v := -1) dX8_cut_11 rfl ?_
    exact y_ireturn dX8_cut_12 rfl (QC_rf hC (by simp [f_cut, g]))
set_option maxRecDepth 4000 in
theorem k_undo {X : zX} {mu : zmu} {nu : znu} {A : AS} (hA : AV A) (hC : CR A mu nu) (d : Nat) : zJ X M_X8_undo (d + 10) 0 0 0 [.ref 0] [] 86 (zEE (mu) (nu)) (zlift (QC (f_undo A) mu nu)) := by
  obtain ⟨hP, hS, hR, hK, hE, hT, hSR, hD⟩ := id hC
  have hp := hA.1
  have hV := hA.2.1
  have h20 := hA.n
  have h5 := hA.b
  obtain ⟨nx, r1, r2, r3, r4⟩ := id hR
  refine z_aload_n dX8_undo_0 rfl ?_
  refine y_getR dX8_undo_1 lf_X8_38 rfl rfl ?_
  refine z_aload_n dX8_undo_4 rfl ?_
  refine y_getR dX8_undo_5 lf_X8_28 rfl rfl ?_
  refine y_callV1x (M' := M_X0_takeBack) dX8_undo_8 lm_X8_188 cv_X0_takeBack rfl (Nat.le_of_ble_eq_true rfl) (Nat.le_of_ble_eq_true rfl) rfl (c_takeBack sAt10 r2 r3 r1 hA.2.2.1.1 _) ?_
  refine zb_if_eq (tgt := 24) dX8_undo_11 (by decide) (fun hc11 => ?_) (fun hc11 => ?_)
  · have h0 : (aA A).1 = 0 := by have := of_decide_eq_false hc11; omega
    rw [show tbM mu nx (aA A).1 10 = mu by unfold tbM; rw [if_pos h0]]
    refine z_bipush (v := -3) dX8_undo_24 rfl ?_
    exact y_ireturn dX8_undo_26 rfl (QC_rf hC (by simp [f_undo, h0]))
  · have h0 : (aA A).1 ≠ 0 := of_decide_eq_true hc11
    obtain ⟨hC2, hfr, h14⟩ := CR_pop hA hC r1 r2 r4 h0
    refine z_aload_n dX8_undo_14 rfl ?_
    refine y_getR dX8_undo_15 lf_X8_38 rfl rfl ?_
    refine y_getIe dX8_undo_18 lf_X8_122 rfl rfl h14 ?_
    refine z_goto (tgt := 26) dX8_undo_21 (by decide) ?_
    exact y_ireturn dX8_undo_26 rfl (QC_of (A' := popA A) (by simp [f_undo, h0]) hC2 ⟨fun z hz => hfr z (by omega), rfl⟩)
set_option maxRecDepth 4000 in
theorem k_far {X : zX} {mu : zmu} {nu : znu} {A : AS} (hA : AV A) (hC : CR A mu nu) (x : Int32) (d : Nat) : zJ X M_X8_far (d + 10) 0 0 0 [.ref 0, .int x] [] 86 (zEE (mu) (nu)) (zlift (QC (f_far A x) mu nu)) := by
  obtain ⟨hP, hS, hR, hK, hE, hT, hSR, hD⟩ := id hC
  have hp := hA.1
  have hV := hA.2.1
  have h20 := hA.n
  have h5 := hA.b
  refine z_aload_n dX8_far_0 rfl ?_
  refine y_getR dX8_far_1 lf_X8_19 rfl rfl ?_
  refine z_iload_n dX8_far_4 rfl ?_
  refine y_callV1x (M' := M_X3_hasBoy) dX8_far_5 lm_X8_139 cv_X3_hasBoy rfl (Nat.le_of_ble_eq_true rfl) (Nat.le_of_ble_eq_true rfl) rfl (c_hasBoy hp hP x _) ?_
  refine zb_if_eq (tgt := 26) dX8_far_8 (by decide) (fun hc8 => ?_) (fun hc8 => ?_)
  · have g : inr x (pb (aP A)) = false := hc8
    refine z_iconst (v := -1) dX8_far_26 rfl ?_
    exact y_ireturn dX8_far_27 rfl (QC_rf hC (by simp [f_far, g]))
  · have g : inr x (pb (aP A)) = true := hc8
    obtain ⟨b, hb, rfl⟩ := inr_t (show inr x (pb (aP A)) = true from g) (by omega)
    refine z_aload_n dX8_far_11 rfl ?_
    refine y_getR dX8_far_12 lf_X8_53 rfl rfl ?_
    refine z_aload_n dX8_far_15 rfl ?_
    refine y_getR dX8_far_16 lf_X8_28 rfl rfl ?_
    refine z_iload_n dX8_far_19 rfl ?_
    refine y_callV2 (M' := M_X5_stepsHome) dX8_far_20 lm_X8_192 cv_X5_stepsHome rfl (Nat.le_of_ble_eq_true rfl) (Nat.le_of_ble_eq_true rfl) rfl (c_stepsHome hp hP hS hV hb hSR _) (fun r mu1 nu1 hq => ?_)
    obtain ⟨rfl, rfl, hs2, ho⟩ := hq
    refine z_goto (tgt := 27) dX8_far_23 (by decide) ?_
    exact y_ireturn dX8_far_27 rfl (QC_of (A' := A) (by simp [f_far, g, ix_nI (show b < 2 ^ 31 by omega)]) (CR_scr hC (fun a _ hs => ho a (by unfold scr at hs; omega) (by unfold scr at hs; omega) (by unfold scr at hs; omega)) hs2 rfl) ⟨fun z hz => ho z (by omega) (by omega) (by omega), rfl⟩)
set_option maxRecDepth 4000 in
theorem k_reach {X : zX} {mu : zmu} {nu : znu} {A : AS} (hA : AV A) (hC : CR A mu nu) (x y : Int32) (d : Nat) : zJ X M_X8_reach (d + 10) 0 0 0 [.ref 0, .int x, .int y] [] 86 (zEE (mu) (nu)) (zlift (QC (f_reach A x y) mu nu)) := by
  obtain ⟨hP, hS, hR, hK, hE, hT, hSR, hD⟩ := id hC
  have hp := hA.1
  have hV := hA.2.1
  have h20 := hA.n
  have h5 := hA.b
  refine z_aload_n dX8_reach_0 rfl ?_
  refine y_getR dX8_reach_1 lf_X8_19 rfl rfl ?_
  refine z_iload_n dX8_reach_4 rfl ?_
  refine y_callV1x (M' := M_X3_hasBoy) dX8_reach_5 lm_X8_139 cv_X3_hasBoy rfl (Nat.le_of_ble_eq_true rfl) (Nat.le_of_ble_eq_true rfl) rfl (c_hasBoy hp hP x _) ?_
  refine zb_if_ne (tgt := 13) dX8_reach_8 (by decide) (fun hc8 => ?_) (fun hc8 => ?_)
  · have g : inr x (pb (aP A)) = true := hc8
    obtain ⟨b, hb, rfl⟩ := inr_t (show inr x (pb (aP A)) = true from g) (by omega)
    refine z_iload_n dX8_reach_13 rfl ?_
    refine z_if_lt (tgt := 23) dX8_reach_14 (by decide) (fun hc14 => ?_) (fun hc14 => ?_)
    · have g2 : inr y 10 = false := inr_neg hc14
      refine z_bipush (v := -2) dX8_reach_23 rfl ?_
      refine z_goto (tgt := 41) dX8_reach_25 (by decide) ?_
      exact y_ireturn dX8_reach_41 rfl (QC_rf hC (by simp [f_reach, g, g2]))
    · refine z_iload_n dX8_reach_17 rfl ?_
      refine z_bipush (v := nI 9) dX8_reach_18 rfl ?_
      refine z_icmp_le (tgt := 28) dX8_reach_20 (by decide) (fun hc20 => ?_) (fun hc20 => ?_)
      · have g2 : inr y 10 = true := inr_in hc14 ((i32_les (by decide)).mp hc20)
        obtain ⟨w, hw, rfl⟩ := inr_t (show inr y (10) = true from g2) (by omega)
        refine z_aload_n dX8_reach_28 rfl ?_
        refine y_getR dX8_reach_29 lf_X8_53 rfl rfl ?_
        refine z_aload_n dX8_reach_32 rfl ?_
        refine y_getR dX8_reach_33 lf_X8_28 rfl rfl ?_
        refine z_iload_n dX8_reach_36 rfl ?_
        refine z_iload_n dX8_reach_37 rfl ?_
        refine y_callV3 (M' := M_X5_cellsWithin) dX8_reach_38 lm_X8_196 cv_X5_cellsWithin rfl (Nat.le_of_ble_eq_true rfl) (Nat.le_of_ble_eq_true rfl) rfl (c_cellsWithin hp hP hS hV hb (n := w) (by omega) hSR _) (fun r mu1 nu1 hq => ?_)
        obtain ⟨rfl, rfl, hs2, ho⟩ := hq
        exact y_ireturn dX8_reach_41 rfl (QC_of (A' := A) (by simp [f_reach, g, g2, ix_nI (show b < 2 ^ 31 by omega), ix_nI (show w < 2 ^ 31 by omega)]) (CR_scr hC (fun a _ hs => ho a (by unfold scr at hs; omega) (by unfold scr at hs; omega) (by unfold scr at hs; omega)) hs2 rfl) ⟨fun z hz => ho z (by omega) (by omega) (by omega), rfl⟩)
      · have g2 : inr y 10 = false := inr_ge (fun e => hc20 ((i32_les (by decide)).mpr e))
        refine z_bipush (v := -2) dX8_reach_23 rfl ?_
        refine z_goto (tgt := 41) dX8_reach_25 (by decide) ?_
        exact y_ireturn dX8_reach_41 rfl (QC_rf hC (by simp [f_reach, g, g2]))
  · have g : inr x (pb (aP A)) = false := hc8
    refine z_iconst (v := -1) dX8_reach_11 rfl ?_
    exact y_ireturn dX8_reach_12 rfl (QC_rf hC (by simp [f_reach, g]))
set_option maxRecDepth 4000 in
theorem k_again {X : zX} {mu : zmu} {nu : znu} {A : AS} (hA : AV A) (hC : CR A mu nu) (x y : Int32) (d : Nat) : zJ X M_X8_again (d + 10) 0 0 0 [.ref 0, .int x, .int y] [] 86 (zEE (mu) (nu)) (zlift (QC (f_again A x y) mu nu)) := by
  obtain ⟨hP, hS, hR, hK, hE, hT, hSR, hD⟩ := id hC
  have hp := hA.1
  have hV := hA.2.1
  have h20 := hA.n
  have h5 := hA.b
  refine z_aload_n dX8_again_0 rfl ?_
  refine y_getR dX8_again_1 lf_X8_19 rfl rfl ?_
  refine z_iload_n dX8_again_4 rfl ?_
  refine y_callV1x (M' := M_X3_hasBoy) dX8_again_5 lm_X8_139 cv_X3_hasBoy rfl (Nat.le_of_ble_eq_true rfl) (Nat.le_of_ble_eq_true rfl) rfl (c_hasBoy hp hP x _) ?_
  refine zb_if_ne (tgt := 13) dX8_again_8 (by decide) (fun hc8 => ?_) (fun hc8 => ?_)
  · have g : inr x (pb (aP A)) = true := hc8
    obtain ⟨b, hb, rfl⟩ := inr_t (show inr x (pb (aP A)) = true from g) (by omega)
    refine z_iload_n dX8_again_13 rfl ?_
    refine y_callS1x (M' := M_X8_isWay) dX8_again_14 lm_X8_132 cs_X8_isWay (Nat.le_of_ble_eq_true rfl) (Nat.le_of_ble_eq_true rfl) rfl (c_isWay y _) ?_
    refine zb_if_eq (tgt := 29) dX8_again_17 (by decide) (fun hc17 => ?_) (fun hc17 => ?_)
    · have g2 : inr y 4 = false := hc17
      refine z_bipush (v := -2) dX8_again_29 rfl ?_
      exact y_ireturn dX8_again_31 rfl (QC_rf hC (by simp [f_again, g, g2]))
    · have g2 : inr y 4 = true := hc17
      obtain ⟨w, hw, rfl⟩ := inr_t (show inr y (4) = true from g2) (by omega)
      refine z_aload_n dX8_again_20 rfl ?_
      refine z_iload_n dX8_again_21 rfl ?_
      refine z_iload_n dX8_again_22 rfl ?_
      refine y_callV2x (M' := M_X8_stepsRound) dX8_again_23 lm_X8_200 cv_X8_stepsRound rfl (Nat.le_of_ble_eq_true rfl) (Nat.le_of_ble_eq_true rfl) rfl (c_stepsRound hp hP hS hV hb hw _) ?_
      refine z_goto (tgt := 31) dX8_again_26 (by decide) ?_
      exact y_ireturn dX8_again_31 rfl (QC_rf hC (by simp [f_again, g, g2, ix_nI (show b < 2 ^ 31 by omega), ix_nI (show w < 2 ^ 31 by omega)]))
  · have g : inr x (pb (aP A)) = false := hc8
    refine z_iconst (v := -1) dX8_again_11 rfl ?_
    exact y_ireturn dX8_again_12 rfl (QC_rf hC (by simp [f_again, g]))
set_option maxRecDepth 4000 in
theorem k_alike_l {X : zX} {mu : zmu} {nu : znu} {A : AS} (hA : AV A) (hC : CR A mu nu) {c : Nat} (hc : c < an A) (d : Nat) : ∀ n i , i + n = an A → zJ X M_X8_alike (d + 10) 0 0 17 [.ref 0, .int (nI c), .int (nI (bset (lke (aP A) (aN A).2 c) i)), .int (nI i)] [] 86 (zEE (mu) (nu)) (zlift (zex (some (.int (nI (bset (lke (aP A) (aN A).2 c) (an A))))) mu nu)) := by
  intro n
  induction n with
  | zero =>
    intro i  hi
    obtain ⟨hP, hS, hR, hK, hE, hT, hSR, hD⟩ := id hC
    have hp := hA.1
    have hV := hA.2.1
    have h20 := hA.n
    have h5 := hA.b
    obtain rfl : i = an A := by omega
    refine z_iload_n dX8_alike_17 rfl ?_
    refine z_aload_n dX8_alike_18 rfl ?_
    refine y_getR dX8_alike_19 lf_X8_19 rfl rfl ?_
    refine y_getIe dX8_alike_22 lf_X8_204 rfl rfl hP.2.2.2.1 ?_
    refine zn_icmp_ge (tgt := 49) dX8_alike_25 (by decide) (by omega) (by have : pw (aP A) * ph (aP A) ≤ 20 := h20; omega) (fun hc25 => ?_) (fun hc25 => by exact absurd hc25 (Nat.lt_irrefl _))
    refine z_iload_n dX8_alike_49 rfl ?_
    exact y_ireturn dX8_alike_50 rfl ⟨rfl, rfl, rfl⟩
  | succ n ih =>
    intro i  hi
    obtain ⟨hP, hS, hR, hK, hE, hT, hSR, hD⟩ := id hC
    have hp := hA.1
    have hV := hA.2.1
    have h20 := hA.n
    have h5 := hA.b
    refine z_iload_n dX8_alike_17 rfl ?_
    refine z_aload_n dX8_alike_18 rfl ?_
    refine y_getR dX8_alike_19 lf_X8_19 rfl rfl ?_
    refine y_getIe dX8_alike_22 lf_X8_204 rfl rfl hP.2.2.2.1 ?_
    refine zn_icmp_ge (tgt := 49) dX8_alike_25 (by decide) (by omega) (by have : pw (aP A) * ph (aP A) ≤ 20 := h20; omega) (fun hc25 => by have : an A ≤ i := hc25; omega) (fun hc25 => ?_)
    refine z_aload_n dX8_alike_28 rfl ?_
    refine z_iload_n dX8_alike_29 rfl ?_
    refine z_iload_n dX8_alike_30 rfl ?_
    refine y_callV2x (M' := M_X8_looksLike) dX8_alike_31 lm_X8_207 cv_X8_looksLike rfl (Nat.le_of_ble_eq_true rfl) (Nat.le_of_ble_eq_true rfl) rfl (c_looksLike hp hP hS hV hc (show i < pw (aP A) * ph (aP A) from hc25) _) ?_
    refine zb_if_eq (tgt := 43) dX8_alike_34 (by decide) (fun hc34 => ?_) (fun hc34 => ?_)
    · refine zn_iinc3 dX8_alike_43 rfl ?_
      refine z_goto (tgt := 17) dX8_alike_46 (by decide) ?_
      rw [bset_f hc34]; exact ih (i + 1) (by omega)
    · refine z_iload_n dX8_alike_37 rfl ?_
      refine z_iconst (v := nI 1) dX8_alike_38 rfl ?_
      refine z_iload_n dX8_alike_39 rfl ?_
      refine zn_ishl dX8_alike_40 (by omega) (by have : 1 * 2 ^ i ≤ 1 * 2 ^ 20 := Nat.mul_le_mul_left 1 (Nat.pow_le_pow_right (by decide) (by omega)); omega) ?_
      refine zn_ior dX8_alike_41 ?_
      refine z_istore2 dX8_alike_42 rfl ?_
      refine zn_iinc3 dX8_alike_43 rfl ?_
      refine z_goto (tgt := 17) dX8_alike_46 (by decide) ?_
      rw [bset_t hc34]; exact ih (i + 1) (by omega)
set_option maxRecDepth 4000 in
theorem k_alike {X : zX} {mu : zmu} {nu : znu} {A : AS} (hA : AV A) (hC : CR A mu nu) (x : Int32) (d : Nat) : zJ X M_X8_alike (d + 10) 0 0 0 [.ref 0, .int x, zu, zu] [] 86 (zEE (mu) (nu)) (zlift (QC (f_alike A x) mu nu)) := by
  obtain ⟨hP, hS, hR, hK, hE, hT, hSR, hD⟩ := id hC
  have hp := hA.1
  have hV := hA.2.1
  have h20 := hA.n
  have h5 := hA.b
  refine z_aload_n dX8_alike_0 rfl ?_
  refine y_getR dX8_alike_1 lf_X8_19 rfl rfl ?_
  refine z_iload_n dX8_alike_4 rfl ?_
  refine y_callV1x (M' := M_X3_hasCell) dX8_alike_5 lm_X8_126 cv_X3_hasCell rfl (Nat.le_of_ble_eq_true rfl) (Nat.le_of_ble_eq_true rfl) rfl (c_hasCell hp hP x _) ?_
  refine zb_if_ne (tgt := 13) dX8_alike_8 (by decide) (fun hc8 => ?_) (fun hc8 => ?_)
  · have g : inr x (an A) = true := hc8
    obtain ⟨c, hc, rfl⟩ := inr_t (show inr x (an A) = true from g) (by omega)
    refine z_iconst (v := nI 0) dX8_alike_13 rfl ?_
    refine z_istore2 dX8_alike_14 rfl ?_
    refine z_iconst (v := nI 0) dX8_alike_15 rfl ?_
    refine z_istore3 dX8_alike_16 rfl ?_
    refine zJ_mono (k_alike_l hA hC hc d (an A) 0 (by omega)) ?_
    rintro r mu1 nu1 ⟨rfl, rfl, rfl⟩
    exact QC_rf hC (by simp [f_alike, g, ix_nI (show c < 2 ^ 31 by omega)])
  · have g : inr x (an A) = false := hc8
    refine z_iconst (v := -1) dX8_alike_11 rfl ?_
    exact y_ireturn dX8_alike_12 rfl (QC_rf hC (by simp [f_alike, g]))
set_option maxRecDepth 4000 in
theorem k_calls {X : zX} {mu : zmu} {nu : znu} {A : AS} (hA : AV A) (hC : CR A mu nu) (x : Int32) (d : Nat) : zJ X M_X8_calls (d + 10) 0 0 0 [.ref 0, .int x] [] 86 (zEE (mu) (nu)) (zlift (QC (f_calls A x) mu nu)) := by
  obtain ⟨hP, hS, hR, hK, hE, hT, hSR, hD⟩ := id hC
  have hp := hA.1
  have hV := hA.2.1
  have h20 := hA.n
  have h5 := hA.b
  refine z_iload_n dX8_calls_0 rfl ?_
  refine z_if_ne (tgt := 16) dX8_calls_1 (by decide) (fun hc1 => ?_) (fun hc1 => ?_)
  · refine z_iload_n dX8_calls_16 rfl ?_
    refine z_iconst (v := nI 1) dX8_calls_17 rfl ?_
    refine z_icmp_ne (tgt := 38) dX8_calls_18 (by decide) (fun hc18 => ?_) (fun hc18 => ?_)
    · refine z_bipush (v := -2) dX8_calls_38 rfl ?_
      exact y_ireturn dX8_calls_40 rfl (QC_rf hC (by simp [f_calls, hc1, hc18]))
    · refine z_aload_n dX8_calls_21 rfl ?_
      refine y_getR dX8_calls_22 lf_X8_60 rfl rfl ?_
      refine z_aload_n dX8_calls_25 rfl ?_
      refine y_getR dX8_calls_26 lf_X8_28 rfl rfl ?_
      refine y_callV1 (M' := M_X1_cellsToCall) dX8_calls_29 lm_X8_210 cv_X1_cellsToCall rfl (Nat.le_of_ble_eq_true rfl) (Nat.le_of_ble_eq_true rfl) rfl (c_cellsToCall hp hP hS hV _) (fun r mu1 nu1 hq => ?_)
      obtain ⟨rfl, S, f1, hcv, rfl, rfl⟩ := hq
      refine y_callS1x (M' := M_J6_bitCount_0f7a4) dX8_calls_32 lm_X8_183 cs_J6_bitCount_0f7a4 (Nat.le_of_ble_eq_true rfl) (Nat.le_of_ble_eq_true rfl) rfl (c_bitCount (Nat.lt_of_lt_of_le hcv.1 (Nat.pow_le_pow_right (by decide) h20)) _) ?_
      refine z_goto (tgt := 40) dX8_calls_35 (by decide) ?_
      exact y_ireturn dX8_calls_40 rfl (QC_of (A' := A) (by subst hc18; simp [f_calls, show ¬ nI 1 = 0 by decide, cvS_eq hp hcv]) (CR_scr hC (fun a _ hs => uR_a (by unfold scr at hs; omega)) (SRH_eq hSR (fun z h1 h2 => uR_a (by omega))) rfl) ⟨fun z hz => uR_a (by omega), rfl⟩)
  · refine z_aload_n dX8_calls_4 rfl ?_
    refine y_getR dX8_calls_5 lf_X8_60 rfl rfl ?_
    refine z_aload_n dX8_calls_8 rfl ?_
    refine y_getR dX8_calls_9 lf_X8_28 rfl rfl ?_
    refine y_callV1 (M' := M_X1_cellsToCall) dX8_calls_12 lm_X8_210 cv_X1_cellsToCall rfl (Nat.le_of_ble_eq_true rfl) (Nat.le_of_ble_eq_true rfl) rfl (c_cellsToCall hp hP hS hV _) (fun r mu1 nu1 hq => ?_)
    obtain ⟨rfl, S, f1, hcv, rfl, rfl⟩ := hq
    exact y_ireturn dX8_calls_15 rfl (QC_of (A' := A) (by simp [f_calls, hc1, cvS_eq hp hcv]) (CR_scr hC (fun a _ hs => uR_a (by unfold scr at hs; omega)) (SRH_eq hSR (fun z h1 h2 => uR_a (by omega))) rfl) ⟨fun z hz => uR_a (by omega), rfl⟩)
set_option maxRecDepth 4000 in
theorem k_match_l {X : zX} {mu : zmu} {nu : znu} {A : AS} (hA : AV A) (hC : CR A mu nu) {x : Int32} (hx : x = 0 ∨ x = nI 1) (d : Nat) : ∀ n i , i + n = ph (aP A) → 1 ≤ i → zJ X M_X8_match (d + 10) 0 0 23 [.ref 0, .int x, .int (nI (mtc (unl (aP A) (aN A).2) (i - 1)).1), .int (nI (mtc (unl (aP A) (aN A).2) (i - 1)).2), .int (nI i), zu] [] 86 (zEE (mu) (nu)) (zlift (QC (f_match A x) mu nu)) := by
  intro n
  induction n with
  | zero =>
    intro i  hi
    obtain ⟨hP, hS, hR, hK, hE, hT, hSR, hD⟩ := id hC
    have hp := hA.1
    have hV := hA.2.1
    have h20 := hA.n
    have h5 := hA.b
    have hh4 := hp.2.2.2.1
    have hm4 := mtc_le (u := unl (aP A) (aN A).2) (m := 4) (fun i => by have := bcnt_le (ulr (aP A) (aN A).2 i) (ph (aP A)); unfold unl; omega) (i - 1)
    intro h1
    obtain rfl : i = ph (aP A) := by omega
    refine z_iload dX8_match_23 rfl ?_
    refine z_aload_n dX8_match_25 rfl ?_
    refine y_getR dX8_match_26 lf_X8_19 rfl rfl ?_
    refine y_getIe dX8_match_29 lf_X8_106 rfl rfl hP.2.1 ?_
    refine zn_icmp_ge (tgt := 61) dX8_match_32 (by decide) (by omega) (by omega) (fun hc32 => ?_) (fun hc32 => by exact absurd hc32 (Nat.lt_irrefl _))
    refine z_iload_n dX8_match_61 rfl ?_
    refine z_if_ne (tgt := 69) dX8_match_62 (by decide) (fun hc62 => ?_) (fun hc62 => ?_)
    · refine z_iload_n dX8_match_69 rfl ?_
      exact y_ireturn dX8_match_70 rfl (QC_rf hC (by rcases hx with rfl | rfl <;> simp_all [f_match, mtA]))
    · refine z_iload_n dX8_match_65 rfl ?_
      refine z_goto (tgt := 70) dX8_match_66 (by decide) ?_
      exact y_ireturn dX8_match_70 rfl (QC_rf hC (by rcases hx with rfl | rfl <;> simp_all [f_match, mtA]))
  | succ n ih =>
    intro i  hi
    obtain ⟨hP, hS, hR, hK, hE, hT, hSR, hD⟩ := id hC
    have hp := hA.1
    have hV := hA.2.1
    have h20 := hA.n
    have h5 := hA.b
    have hh4 := hp.2.2.2.1
    have hm4 := mtc_le (u := unl (aP A) (aN A).2) (m := 4) (fun i => by have := bcnt_le (ulr (aP A) (aN A).2 i) (ph (aP A)); unfold unl; omega) (i - 1)
    intro h1
    refine z_iload dX8_match_23 rfl ?_
    refine z_aload_n dX8_match_25 rfl ?_
    refine y_getR dX8_match_26 lf_X8_19 rfl rfl ?_
    refine y_getIe dX8_match_29 lf_X8_106 rfl rfl hP.2.1 ?_
    refine zn_icmp_ge (tgt := 61) dX8_match_32 (by decide) (by omega) (by omega) (fun hc32 => by omega) (fun hc32 => ?_)
    refine z_aload_n dX8_match_35 rfl ?_
    refine z_iload dX8_match_36 rfl ?_
    refine y_callV1x (M' := M_X8_unlikeRows) dX8_match_38 lm_X8_214 cv_X8_unlikeRows rfl (Nat.le_of_ble_eq_true rfl) (Nat.le_of_ble_eq_true rfl) rfl (c_unlikeRows hp hP hS hV hc32 _) ?_
    refine z_istore5 dX8_match_41 rfl ?_
    refine z_iload dX8_match_43 rfl ?_
    refine z_iload_n dX8_match_45 rfl ?_
    refine zn_icmp_ge (tgt := 55) dX8_match_46 (by decide) (by have := bcnt_le (ulr (aP A) (aN A).2 i) (ph (aP A)); unfold unl; omega) (by have := hm4.2; omega) (fun hc46 => ?_) (fun hc46 => ?_)
    · refine zn_iinc4 dX8_match_55 rfl ?_
      refine z_goto (tgt := 23) dX8_match_58 (by decide) ?_
      have e : mtc (unl (aP A) (aN A).2) (i + 1 - 1) = mtc (unl (aP A) (aN A).2) (i - 1) := by rw [show i + 1 - 1 = (i - 1) + 1 by omega, mtc_s, show i - 1 + 1 = i by omega, if_neg (by omega)]
      have k := ih (i + 1) (by omega) (by omega)
      rw [e] at k
      exact z_sub k ⟨Or.inr rfl, Or.inr rfl, Or.inr rfl, Or.inr rfl, Or.inr rfl, Or.inl rfl, trivial⟩
    · refine z_iload dX8_match_49 rfl ?_
      refine z_istore3 dX8_match_51 rfl ?_
      refine z_iload dX8_match_52 rfl ?_
      refine z_istore2 dX8_match_54 rfl ?_
      refine zn_iinc4 dX8_match_55 rfl ?_
      refine z_goto (tgt := 23) dX8_match_58 (by decide) ?_
      have e : mtc (unl (aP A) (aN A).2) (i + 1 - 1) = (i, unl (aP A) (aN A).2 i) := by rw [show i + 1 - 1 = (i - 1) + 1 by omega, mtc_s, show i - 1 + 1 = i by omega, if_pos (by omega)]
      have k := ih (i + 1) (by omega) (by omega)
      rw [e] at k
      exact z_sub k ⟨Or.inr rfl, Or.inr rfl, Or.inr rfl, Or.inr rfl, Or.inr rfl, Or.inl rfl, trivial⟩
set_option maxRecDepth 4000 in
theorem k_match {X : zX} {mu : zmu} {nu : znu} {A : AS} (hA : AV A) (hC : CR A mu nu) (x : Int32) (d : Nat) : zJ X M_X8_match (d + 10) 0 0 0 [.ref 0, .int x, zu, zu, zu, zu] [] 86 (zEE (mu) (nu)) (zlift (QC (f_match A x) mu nu)) := by
  obtain ⟨hP, hS, hR, hK, hE, hT, hSR, hD⟩ := id hC
  have hp := hA.1
  have hV := hA.2.1
  have h20 := hA.n
  have h5 := hA.b
  have hh2 := hp.2.2.1
  refine z_iload_n dX8_match_0 rfl ?_
  refine z_if_eq (tgt := 12) dX8_match_1 (by decide) (fun hc1 => ?_) (fun hc1 => ?_)
  · have hx : x = 0 ∨ x = nI 1 := Or.inl hc1
    refine z_iconst (v := nI 0) dX8_match_12 rfl ?_
    refine z_istore2 dX8_match_13 rfl ?_
    refine z_aload_n dX8_match_14 rfl ?_
    refine z_iconst (v := nI 0) dX8_match_15 rfl ?_
    refine y_callV1x (M' := M_X8_unlikeRows) dX8_match_16 lm_X8_214 cv_X8_unlikeRows rfl (Nat.le_of_ble_eq_true rfl) (Nat.le_of_ble_eq_true rfl) rfl (c_unlikeRows hp hP hS hV (show 0 < ph (aP A) by omega) _) ?_
    refine z_istore3 dX8_match_19 rfl ?_
    refine z_iconst (v := nI 1) dX8_match_20 rfl ?_
    refine z_istore4 dX8_match_21 rfl ?_
    exact k_match_l hA hC hx d (ph (aP A) - 1) 1 (by omega) (by omega)
  · refine z_iload_n dX8_match_4 rfl ?_
    refine z_iconst (v := nI 1) dX8_match_5 rfl ?_
    refine z_icmp_eq (tgt := 12) dX8_match_6 (by decide) (fun hc6 => ?_) (fun hc6 => ?_)
    · have hx : x = 0 ∨ x = nI 1 := Or.inr hc6
      refine z_iconst (v := nI 0) dX8_match_12 rfl ?_
      refine z_istore2 dX8_match_13 rfl ?_
      refine z_aload_n dX8_match_14 rfl ?_
      refine z_iconst (v := nI 0) dX8_match_15 rfl ?_
      refine y_callV1x (M' := M_X8_unlikeRows) dX8_match_16 lm_X8_214 cv_X8_unlikeRows rfl (Nat.le_of_ble_eq_true rfl) (Nat.le_of_ble_eq_true rfl) rfl (c_unlikeRows hp hP hS hV (show 0 < ph (aP A) by omega) _) ?_
      refine z_istore3 dX8_match_19 rfl ?_
      refine z_iconst (v := nI 1) dX8_match_20 rfl ?_
      refine z_istore4 dX8_match_21 rfl ?_
      exact k_match_l hA hC hx d (ph (aP A) - 1) 1 (by omega) (by omega)
    · refine z_bipush (v := -2) dX8_match_9 rfl ?_
      exact y_ireturn dX8_match_11 rfl (QC_rf hC (by simp [f_match, hc1, hc6]))
