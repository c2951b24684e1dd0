def nL (a : Nat) : Int64 := Int64.ofNat a
theorem nL_toInt {a : Nat} (h : a < 2 ^ 63) : (nL a).toInt = (a : Int) := lg_ofNat_toInt h
theorem nL_div {a b : Nat} (ha : a < 2 ^ 63) (h0 : 0 < b) (hb : b < 2 ^ 63) : nL a / nL b = nL (a / b) := by
  apply Int64.toInt_inj.mp
  have h1 : a / b < 2 ^ 63 := Nat.lt_of_le_of_lt (Nat.div_le_self _ _) ha
  rw [lg_ldiv_nonneg (by rw [nL_toInt ha]; omega) (by rw [nL_toInt hb]; omega), nL_toInt ha, nL_toInt hb, nL_toInt h1]; rfl
theorem nL_rem {a b : Nat} (ha : a < 2 ^ 63) (h0 : 0 < b) (hb : b < 2 ^ 63) : nL a - nL a / nL b * nL b = nL (a % b) := by
  rw [nL_div ha h0 hb]
  have e : a % b = a - a / b * b := by rw [Nat.mul_comm, Nat.mod_eq_sub_mul_div]
  rw [e]
  unfold nL
  rw [Int64.ofNat_sub _ _ (Nat.div_mul_le_self _ _), Int64.ofNat_mul]
theorem nL_32 {a : Nat} (h : a < 2 ^ 31) : (nL a).toInt32 = nI a := by
  apply Int32.toInt_inj.mp
  rw [Jvm.Kit.i32_of_i64 (by rw [nL_toInt (by omega)]; omega) (by rw [nL_toInt (by omega)]; omega), nL_toInt (by omega), nI_toInt h]
theorem nL_ne0 {b : Nat} (h0 : 0 < b) (hb : b < 2 ^ 63) : ¬ nL b = 0 := by
  intro e
  have := congrArg Int64.toInt e
  rw [nL_toInt hb] at this
  simp at this; omega
theorem zl_ldiv {X : zX} {M : zM} {d k q pc : Nat} {L S : List Value} {n : Nat} {h : zH} {Q : zQ} {a b : Nat} (hd : decode M.2.1 pc = .ok (.ldiv, 1)) (ha : a < 2 ^ 63) (h0 : 0 < b) (hb : b < 2 ^ 63) (kk : zJ X M d k q (pc + 1) L (.long (nL (a / b)) :: S) n h Q) : zJ X M d k q pc L (.long (nL b) :: .long (nL a) :: S) n h Q := by
  refine z_ldiv hd (nL_ne0 h0 hb) ?_
  rw [nL_div ha h0 hb]; exact kk
theorem zl_lrem {X : zX} {M : zM} {d k q pc : Nat} {L S : List Value} {n : Nat} {h : zH} {Q : zQ} {a b : Nat} (hd : decode M.2.1 pc = .ok (.lrem, 1)) (ha : a < 2 ^ 63) (h0 : 0 < b) (hb : b < 2 ^ 63) (kk : zJ X M d k q (pc + 1) L (.long (nL (a % b)) :: S) n h Q) : zJ X M d k q pc L (.long (nL b) :: .long (nL a) :: S) n h Q := by
  refine z_lrem hd (nL_ne0 h0 hb) ?_
  rw [nL_rem ha h0 hb]; exact kk
theorem zl_l2i {X : zX} {M : zM} {d k q pc : Nat} {L S : List Value} {n : Nat} {h : zH} {Q : zQ} {a : Nat} (hd : decode M.2.1 pc = .ok (.l2i, 1)) (ha : a < 2 ^ 31) (kk : zJ X M d k q (pc + 1) L (.int (nI a) :: S) n h Q) : zJ X M d k q pc L (.long (nL a) :: S) n h Q := by
  refine z_l2i hd ?_
  rw [nL_32 ha]; exact kk
theorem vp_nI {i n : Nat} (hi : i < n) (hn : n < 2 ^ 31) : vp_in (nI i) n := by
  intro e
  rcases e with e | e
  · rw [Int32.lt_iff_toInt_lt, nI_toInt (by omega)] at e; simp at e; omega
  · rw [nI_clamp (by omega)] at e; omega
theorem zl_thou {X : zX} {M : zM} {d k q pc : Nat} {L S : List Value} {n : Nat} {h : zH} {Q : zQ} {i : Nat} (hd : decode M.2.1 pc = .ok (.laload, 1)) (hi : i < 5) (kk : zJ X M d k q (pc + 1) L (.long (nL (1000 ^ i)) :: S) n h Q) : zJ X M d k q pc L (.int (nI i) :: .ref 1000001 :: S) n h Q := by
  refine z_laldT hd (vp_nI hi (by decide)) ?_
  rw [nI_clamp (by omega)]; exact kk
theorem zl_pow {X : zX} {M : zM} {d k q pc : Nat} {L S : List Value} {n : Nat} {h : zH} {Q : zQ} {i : Nat} (hd : decode M.2.1 pc = .ok (.iaload, 1)) (hi : i < 6) (kk : zJ X M d k q (pc + 1) L (.int (nI (4 ^ i)) :: S) n h Q) : zJ X M d k q pc L (.int (nI i) :: .ref 1000002 :: S) n h Q := by
  refine z_ialdP hd (vp_nI hi (by decide)) ?_
  rw [nI_clamp (by omega)]; exact kk
def lx (r : Int64) : Nat := r.toInt.toNat
theorem lx_nL {a : Nat} (h : a < 2 ^ 63) : lx (nL a) = a := by unfold lx; rw [nL_toInt h]; rfl
theorem nL_lx {r : Int64} (h : 0 ≤ r) : nL (lx r) = r := by
  rw [Int64.le_iff_toInt_le] at h
  have h0 : (0 : Int64).toInt = 0 := by decide
  rw [h0] at h
  have h1 := r.toInt_lt
  apply Int64.toInt_inj.mp
  unfold lx
  rw [nL_toInt (by omega)]; omega
theorem p1000 : ∀ b, b < 5 → 1000 ^ b < 2 ^ 63 ∧ 0 < 1000 ^ b := by decide
/-- judge -/
def dg (r b i : Nat) : Nat := r / 1000 ^ (b - 1 - i) % 1000
theorem dg_lt (r b i : Nat) : dg r b i < 1000 := Nat.mod_lt _ (by decide)
def dod (p : PT) (s : SC) (t : Nat) : Bool × SC := dos p s (t / 100) (t / 10 % 10) (t % 10)
def jgR (p : PT) (r b : Nat) : Nat → Nat → SC → Option Nat
  | 0, _, _ => none
  | f + 1, i, s => if (dod p s (dg r b i)).1 = true then jgR p r b f (i + 1) (dod p s (dg r b i)).2 else some i
def okJ (x : Int32) (r : Int64) : Bool := in1 x 4 && decide (0 ≤ r ∧ r < nL (1000 ^ ix x))
def f_judge (A : AS) (x : Int32) (r : Int64) : Int32 × AS := (if okJ x r = true then o9 (jgR (aP A) (lx r) (ix x) (ix x) 0 (aN A)) else -2, A)
theorem CR_12 {A : AS} {mu mu1 : zmu} {nu : znu} (h : CR A mu nu) (ho : only 12 mu mu1) : CR A mu1 nu := CR_scr h (fun a _ hs => ho a (by unfold scr at hs; omega) (by unfold scr at hs; omega)) (SRH_eq h.2.2.2.2.2.2.1 (fun x h1 h2 => ho x (by omega) (by omega))) rfl
theorem FrC_12 {mu mu1 : zmu} {nu : znu} (ho : only 12 mu mu1) : FrC mu nu mu1 nu := ⟨fun a ha => ho a (by omega) (by omega), rfl⟩
set_option maxRecDepth 4000 in
theorem k_judge_l {X : zX} {mu : zmu} {nu : znu} {A : AS} (hA : AV A) (hC : CR A mu nu) {b r : Nat} (hb : 1 ≤ b ∧ b ≤ 4) (hr : r < 2 ^ 63) (d : Nat) : ∀ n i mu1 s, i + n = b → only 12 mu mu1 → SFs (aP A) s 12 mu1 → SVs (aP A) s → zJ X M_X8_judge (d + 10) 0 0 43 [.ref 0, .int (nI b), .long (nL r), zu, .int (nI i), zu] [] 86 (zEE (mu1) (nu)) (zlift (QC (o9 (jgR (aP A) r b n i s), A) mu nu)) := by
  intro n
  induction n with
  | zero =>
    intro i mu1 s hi
    obtain ⟨hP, hS, hR, hK, hE, hT, hSR, hD⟩ := id hC
    have hp := hA.1
    have hV := hA.2.1
    have h20 := hA.n
    have h5 := hA.b
    intro ho hs hv
    refine z_iload dX8_judge_43 rfl ?_
    refine z_iload_n dX8_judge_45 rfl ?_
    refine zn_icmp_ge (tgt := 102) dX8_judge_46 (by decide) (by omega) (by omega) (fun hc46 => ?_) (fun hc46 => by omega)
    refine z_bipush (v := -9) dX8_judge_102 rfl ?_
    exact y_ireturn dX8_judge_104 rfl (QC_of rfl (CR_12 hC ho) (FrC_12 ho))
  | succ n ih =>
    intro i mu1 s hi
    obtain ⟨hP, hS, hR, hK, hE, hT, hSR, hD⟩ := id hC
    have hp := hA.1
    have hV := hA.2.1
    have h20 := hA.n
    have h5 := hA.b
    intro ho hs hv
    have ht := dg_lt r b i
    have hpw := p1000 (b - 1 - i) (by omega)
    refine z_iload dX8_judge_43 rfl ?_
    refine z_iload_n dX8_judge_45 rfl ?_
    refine zn_icmp_ge (tgt := 102) dX8_judge_46 (by decide) (by omega) (by omega) (fun hc46 => by omega) (fun hc46 => ?_)
    refine z_lload_n dX8_judge_49 rfl ?_
    refine z_getT dX8_judge_50 lst_X8_217 ?_
    refine z_iload_n dX8_judge_53 rfl ?_
    refine z_iconst (v := nI 1) dX8_judge_54 rfl ?_
    refine zn_isub dX8_judge_55 (by omega) ?_
    refine z_iload dX8_judge_56 rfl ?_
    refine zn_isub dX8_judge_58 (by omega) ?_
    refine zl_thou dX8_judge_59 (by omega) ?_
    refine zl_ldiv dX8_judge_60 hr hpw.2 hpw.1 ?_
    refine z_ldc2 (v := nL 1000) dX8_judge_61 lk_X8_224 ?_
    refine zl_lrem dX8_judge_64 (Nat.lt_of_le_of_lt (Nat.div_le_self _ _) hr) (by decide) (by decide) ?_
    refine zl_l2i dX8_judge_65 (Nat.lt_trans (Nat.mod_lt _ (by decide)) (by decide)) ?_
    rw [show r / 1000 ^ (b - 1 - i) % 1000 = dg r b i from rfl]
    refine z_istore5 dX8_judge_66 rfl ?_
    refine z_aload_n dX8_judge_68 rfl ?_
    refine z_iload dX8_judge_69 rfl ?_
    refine z_bipush (v := nI 100) dX8_judge_71 rfl ?_
    refine zn_idiv dX8_judge_73 (by omega) (by omega) (by omega) ?_
    refine z_iload dX8_judge_74 rfl ?_
    refine z_bipush (v := nI 10) dX8_judge_76 rfl ?_
    refine zn_idiv dX8_judge_78 (by omega) (by omega) (by omega) ?_
    refine z_bipush (v := nI 10) dX8_judge_79 rfl ?_
    refine zn_irem dX8_judge_81 (by omega) (by omega) (by omega) ?_
    refine z_iload dX8_judge_82 rfl ?_
    refine z_bipush (v := nI 10) dX8_judge_84 rfl ?_
    refine zn_irem dX8_judge_86 (by omega) (by omega) (by omega) ?_
    refine y_callV3 (M' := M_X8_holds) dX8_judge_87 lm_X8_226 cv_X8_holds rfl (Nat.le_of_ble_eq_true rfl) (Nat.le_of_ble_eq_true rfl) rfl (q_holds hp (only_P hP ho (by decide)) hs hv (by omega) (by omega) (by omega) _) (fun r1 mu2 nu2 hq => ?_)
    obtain ⟨rfl, rfl, hS2, ho2⟩ := hq
    refine zb_if_ne (tgt := 96) dX8_judge_90 (by decide) (fun hc90 => ?_) (fun hc90 => ?_)
    · refine zn_iinc4 dX8_judge_96 rfl ?_
      refine z_goto (tgt := 43) dX8_judge_99 (by decide) ?_
      have e : jgR (aP A) r b (n + 1) i s = jgR (aP A) r b n (i + 1) (dod (aP A) s (dg r b i)).2 := if_pos hc90
      rw [e]
      exact z_sub (ih (i + 1) mu2 _ (by omega) (only_tr ho ho2) hS2 (dos_V hp hv _ _ _)) ⟨Or.inr rfl, Or.inr rfl, Or.inr rfl, Or.inr rfl, Or.inr rfl, Or.inl rfl, trivial⟩
    · have e : jgR (aP A) r b (n + 1) i s = some i := if_neg (fun e => Bool.noConfusion (hc90.symm.trans e))
      refine z_iload dX8_judge_93 rfl ?_
      exact y_ireturn dX8_judge_95 rfl (QC_of (by rw [e]; rfl) (CR_12 hC (only_tr ho ho2)) (FrC_12 (only_tr ho ho2)))
set_option maxRecDepth 4000 in
theorem k_judge {X : zX} {mu : zmu} {nu : znu} {A : AS} (hA : AV A) (hC : CR A mu nu) (x : Int32) (r : Int64) (d : Nat) : zJ X M_X8_judge (d + 10) 0 0 0 [.ref 0, .int x, .long r, zu, zu, zu] [] 86 (zEE (mu) (nu)) (zlift (QC (f_judge A x r) mu nu)) := by
  obtain ⟨hP, hS, hR, hK, hE, hT, hSR, hD⟩ := id hC
  have hp := hA.1
  have hV := hA.2.1
  have h20 := hA.n
  have h5 := hA.b
  refine z_iload_n dX8_judge_0 rfl ?_
  refine z_iconst (v := nI 1) dX8_judge_1 rfl ?_
  refine z_icmp_lt (tgt := 26) dX8_judge_2 (by decide) (fun hc2 => ?_) (fun hc2 => ?_)
  · have g : okJ x r = false := by simp only [okJ, in1, Bool.and_eq_false_iff]; left; exact decide_eq_false (fun e => absurd hc2 (Int32.not_lt.mpr e.1))
    refine z_bipush (v := -2) dX8_judge_26 rfl ?_
    exact y_ireturn dX8_judge_28 rfl (QC_rf hC (by simp [f_judge, g]))
  · refine z_iload_n dX8_judge_5 rfl ?_
    refine z_iconst (v := nI 4) dX8_judge_6 rfl ?_
    refine z_icmp_gt (tgt := 26) dX8_judge_7 (by decide) (fun hc7 => ?_) (fun hc7 => ?_)
    · have g : okJ x r = false := by simp only [okJ, in1, Bool.and_eq_false_iff]; left; exact decide_eq_false (fun e => absurd hc7 (Int32.not_lt.mpr e.2))
      refine z_bipush (v := -2) dX8_judge_26 rfl ?_
      exact y_ireturn dX8_judge_28 rfl (QC_rf hC (by simp [f_judge, g]))
    · have g1 : in1 x 4 = true := decide_eq_true ⟨Int32.not_lt.mp hc2, Int32.not_lt.mp hc7⟩
      obtain ⟨b, hb1, hb4, rfl⟩ := in1_t g1 (by decide)
      have hpb := p1000 b (by omega)
      refine z_lload_n dX8_judge_10 rfl ?_
      refine z_lconst (v := 0) dX8_judge_11 rfl ?_
      refine z_lcmp dX8_judge_12 ?_
      refine z_if_lt (tgt := 26) dX8_judge_13 (by decide) (fun hc13 => ?_) (fun hc13 => ?_)
      · have g : okJ (nI b) r = false := by simp only [okJ, Bool.and_eq_false_iff]; right; exact decide_eq_false (fun e => lg_le_not_lt e.1 ((lg_cmp_lt _ _).mp hc13))
        refine z_bipush (v := -2) dX8_judge_26 rfl ?_
        exact y_ireturn dX8_judge_28 rfl (QC_rf hC (by simp [f_judge, g]))
      · refine z_lload_n dX8_judge_16 rfl ?_
        refine z_getT dX8_judge_17 lst_X8_217 ?_
        refine z_iload_n dX8_judge_20 rfl ?_
        refine zl_thou dX8_judge_21 (by omega) ?_
        refine z_lcmp dX8_judge_22 ?_
        refine z_if_lt (tgt := 29) dX8_judge_23 (by decide) (fun hc23 => ?_) (fun hc23 => ?_)
        · have h0 : 0 ≤ r := Int64.le_iff_toInt_le.mpr (by have q : ¬ r < 0 := fun e => hc13 ((lg_cmp_lt r 0).mpr e); rw [Int64.lt_iff_toInt_lt] at q; omega)
          have hlt := (lg_cmp_lt _ _).mp hc23
          have g : okJ (nI b) r = true := by simp only [okJ, g1, ix_nI (show b < 2 ^ 31 by omega), Bool.true_and]; exact decide_eq_true ⟨h0, hlt⟩
          have hr63 : lx r < 2 ^ 63 := by have := r.toInt_lt; unfold lx; omega
          refine z_aload_n dX8_judge_29 rfl ?_
          refine y_getR dX8_judge_30 lf_X8_32 rfl rfl ?_
          refine z_aload_n dX8_judge_33 rfl ?_
          refine y_getR dX8_judge_34 lf_X8_28 rfl rfl ?_
          refine y_callV1x (M' := M_X4_become) dX8_judge_37 lm_X8_221 cv_X4_become rfl (Nat.le_of_ble_eq_true rfl) (Nat.le_of_ble_eq_true rfl) rfl (c_become2 sAt12 sAt10 _) ?_
          refine z_iconst (v := nI 0) dX8_judge_40 rfl ?_
          refine z_istore4 dX8_judge_41 rfl ?_
          have e := nL_lx h0
          have k := k_judge_l (X := X) hA hC ⟨hb1, hb4⟩ hr63 d b 0 (bec mu 12 10) (aN A) (by omega) bec_only (SFs_bec hp hS sAt12 sAt10 (by decide)) hV
          rw [e] at k
          refine zJ_mono k (fun r1 mu1 nu1 hq => ?_)
          have ef : f_judge A (nI b) r = (o9 (jgR (aP A) (lx r) b b 0 (aN A)), A) := by simp [f_judge, g, ix_nI (show b < 2 ^ 31 by omega)]
          rw [ef]; exact hq
        · have g : okJ (nI b) r = false := by simp only [okJ, Bool.and_eq_false_iff, ix_nI (show b < 2 ^ 31 by omega)]; right; exact decide_eq_false (fun e => hc23 ((lg_cmp_lt _ _).mpr e.2))
          refine z_bipush (v := -2) dX8_judge_26 rfl ?_
          exact y_ireturn dX8_judge_28 rfl (QC_rf hC (by simp [f_judge, g]))
