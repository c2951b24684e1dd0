theorem h1_X9 : ∀ i, i ≠ 27 → ([0, 69, 0, 0, 0, 0, 0, 70, 0, 71, 72, 0, 0, 0, 73, 0, 74, 75, 76, 77, 0, 78, 79, 0, 80, 81, 82, 1, 83, 84, 85, 0, 0, 0, 86, 87] : List Nat)[i]? ≠ some 1 := by
  have h : ∀ i, i < 36 → i ≠ 27 → ([0, 69, 0, 0, 0, 0, 0, 70, 0, 71, 72, 0, 0, 0, 73, 0, 74, 75, 76, 77, 0, 78, 79, 0, 80, 81, 82, 1, 83, 84, 85, 0, 0, 0, 86, 87] : List Nat)[i]? ≠ some 1 := by decide
  intro i hi e
  exact h i (List.getElem?_eq_some_iff.mp e).1 hi e
theorem MR_seed {A : AS} {mu : zmu} {nu nu1 : znu} {v : Int64} (h : MR A mu nu) (e : nu1 66 = v) : MR (setD A v) mu nu1 := ⟨h.1, h.2.1, h.2.2.1, h.2.2.2.1, h.2.2.2.2.1, h.2.2.2.2.2.1, e⟩
theorem va_up66 {nu : znu} {v : Int64} : va_up nu 66 v 0 = nu 0 := va_up_ne nu v (by decide)
theorem hpn_dod (p : PT) (s : SC) {x : Nat} (hx : x < 40) : hpn p s x = (dod p s (if x < 20 then 100 + 10 * (x / 4) + x % 4 else 180 + x)).2 := by
  unfold hpn dod
  by_cases h : x < 20
  · rw [if_pos h, if_pos h, show (100 + 10 * (x / 4) + x % 4) / 100 = 1 by omega, show (100 + 10 * (x / 4) + x % 4) / 10 % 10 = x / 4 by omega, show (100 + 10 * (x / 4) + x % 4) % 10 = x % 4 by omega]
  · rw [if_neg h, if_neg h, show (180 + x) / 100 = 2 by omega, show (180 + x) / 10 % 10 = (x - 20) / 10 by omega, show (180 + x) % 10 = (x - 20) % 10 by omega]
set_option maxRecDepth 4000 in
theorem r_seed {X : zX} {mu : zmu} {nu : znu} {A : AS} (hA : AV A) (hC : MR A mu nu) (v : Int64) (d : Nat) : zJ X M_X9_seed (d + 10) 0 0 0 [.ref 66, .long v, zu, zu, zu] [] 86 (zEE (mu) (nu)) (zlift (fun r mu1 nu1 => r = some (.long (aD A)) ∧ MR (setD A v) mu1 nu1 ∧ FrM mu nu mu1 nu1)) := by
  refine z_aload_n dX9_seed_0 rfl ?_
  refine z_iconst (v := nI 0) dX9_seed_1 rfl ?_
  refine y_putI dX9_seed_2 lp_X9_75 rfl rfl ?_
  refine z_aload_n dX9_seed_5 rfl ?_
  refine y_getJ dX9_seed_6 lf_X9_283 rfl rfl ?_
  refine z_lstore3 dX9_seed_9 rfl ?_
  refine z_aload_n dX9_seed_10 rfl ?_
  refine z_lload_n dX9_seed_11 rfl ?_
  refine y_putJ dX9_seed_12 lp_X9_283 rfl rfl h1_X9 ?_
  refine z_lload_n dX9_seed_15 rfl ?_
  exact y_lreturn dX9_seed_16 rfl ⟨by rw [hC.2.2.2.2.2.2], MR_seed (MR_s hC Sm_th) (va_up_self _ _ _), ⟨(FrM_m (nu := nu) (Sm_th (mu := mu))).1, va_up66⟩⟩
set_option maxRecDepth 4000 in
theorem r_nights_l {X : zX} {mu : zmu} {nu : znu} {A : AS} (hA : AV A) (hC : MR A mu nu) {m : Nat} (hm : m ≤ 30) (d : Nat) : ∀ n i mu1 nu1, i + n = m → S8a 74 mu mu1 → PG (aP A) (ngt (aP A) (aN A) (aD A) i).2.2 74 mu1 → nu1 66 = (ngt (aP A) (aN A) (aD A) i).2.1 → nu1 0 = nu 0 → (ngt (aP A) (aN A) (aD A) i).1 ≤ 5 * i → zJ X M_X9_nights (d + 10) 0 0 28 [.ref 66, .int (nI m), .int (nI (ngt (aP A) (aN A) (aD A) i).1), .int (nI i), zu] [] 86 (zEE (mu1) (nu1)) (zlift (QM (nI (ngt (aP A) (aN A) (aD A) m).1, setD A (ngt (aP A) (aN A) (aD A) m).2.1) mu nu)) := by
  intro n
  induction n with
  | zero =>
    intro i mu1 nu1 hi
    have hp := hA.1
    have hV := hA.2.1
    have h20 : pw (aP A) * ph (aP A) ≤ 20 := hA.n
    have h5 := hA.b
    intro ho hs hn0 hn66 hsum
    obtain rfl : i = m := by omega
    refine z_iload_n dX9_nights_28 rfl ?_
    refine z_iload_n dX9_nights_29 rfl ?_
    refine zn_icmp_ge (tgt := 116) dX9_nights_30 (by decide) (by omega) (by omega) (fun hc30 => ?_) (fun hc30 => by omega)
    refine z_iload_n dX9_nights_116 rfl ?_
    exact y_ireturn dX9_nights_117 rfl (QM_of (A' := setD A (ngt (aP A) (aN A) (aD A) i).2.1) rfl (MR_seed (MR_s hC (Sm_74 ho)) hn0) ⟨(FrM_m (nu := nu) (Sm_74 ho)).1, hn66⟩)
  | succ n ih =>
    intro i mu1 nu1 hi
    have hp := hA.1
    have hV := hA.2.1
    have h20 : pw (aP A) * ph (aP A) ≤ 20 := hA.n
    have h5 := hA.b
    intro ho hs hn0 hn66 hsum
    have hv := ngt_V hp hV (aD A) i
    have hx := sdx_eq (sd1 (ngt (aP A) (aN A) (aD A) i).2.1)
    have hM1 := PM_8 hC.1 p74 ho
    have hm40 : sdx (sd1 (ngt (aP A) (aN A) (aD A) i).2.1) < 40 := Nat.mod_lt _ (by decide)
    refine z_iload_n dX9_nights_28 rfl ?_
    refine z_iload_n dX9_nights_29 rfl ?_
    refine zn_icmp_ge (tgt := 116) dX9_nights_30 (by decide) (by omega) (by omega) (fun hc30 => by omega) (fun hc30 => ?_)
    refine z_aload_n dX9_nights_33 rfl ?_
    refine z_aload_n dX9_nights_34 rfl ?_
    refine y_getJ dX9_nights_35 lf_X9_283 rfl rfl ?_
    rw [hn0]
    refine z_ldc2 dX9_nights_38 lk_X9_289 ?_
    refine z_lmul dX9_nights_41 ?_
    refine z_ldc2 dX9_nights_42 lk_X9_291 ?_
    refine z_ladd dX9_nights_45 ?_
    refine y_putJ dX9_nights_46 lp_X9_283 rfl rfl h1_X9 ?_
    rw [show (ngt (aP A) (aN A) (aD A) i).2.1 * 6364136223846793005 + 1442695040888963407 = sd1 (ngt (aP A) (aN A) (aD A) i).2.1 from rfl]
    refine z_aload_n dX9_nights_49 rfl ?_
    refine y_getJ dX9_nights_50 lf_X9_283 rfl rfl ?_
    rw [va_up_self]
    refine z_bipush (v := 33) dX9_nights_53 rfl ?_
    refine z_lushr dX9_nights_55 ?_
    rw [hx.1]
    refine z_ldc2 (v := nL 40) dX9_nights_56 lk_X9_293 ?_
    refine zl_lrem dX9_nights_59 (Nat.lt_trans hx.2 (by decide)) (by decide) (by decide) ?_
    rw [show ((sd1 (ngt (aP A) (aN A) (aD A) i).2.1).toUInt64 >>> 33).toNat % 40 = sdx (sd1 (ngt (aP A) (aN A) (aD A) i).2.1) from rfl]
    refine zl_l2i dX9_nights_60 (by omega) ?_
    refine z_istore4 dX9_nights_61 rfl ?_
    refine z_aload_n dX9_nights_63 rfl ?_
    refine z_iload dX9_nights_64 rfl ?_
    refine z_bipush (v := nI 20) dX9_nights_66 rfl ?_
    refine zn_icmp_ge (tgt := 89) dX9_nights_68 (by decide) (by omega) (by omega) (fun hc68 => ?_) (fun hc68 => ?_)
    · refine z_sipush (v := nI 180) dX9_nights_89 rfl ?_
      refine z_iload dX9_nights_92 rfl ?_
      refine zn_iadd dX9_nights_94 ?_
      refine y_callV1 (M' := M_X9_does) dX9_nights_95 lm_X9_251 cv_X9_does rfl (Nat.le_of_ble_eq_true rfl) (Nat.le_of_ble_eq_true rfl) rfl (m_does hp hM1 hs hv (t := 180 + sdx (sd1 (ngt (aP A) (aN A) (aD A) i).2.1)) (by omega) _) (fun r mu2 nu2 hq => ?_)
      obtain ⟨rfl, rfl, hS2, ho2⟩ := hq
      have eh := hpn_dod (aP A) (ngt (aP A) (aN A) (aD A) i).2.2 (x := sdx (sd1 (ngt (aP A) (aN A) (aD A) i).2.1)) hm40
      rw [if_neg (by omega)] at eh
      rw [← eh] at hS2
      have hM2 := PM_8 hM1 p74 ho2
      have hv2 := hpn_V hp hv (sdx (sd1 (ngt (aP A) (aN A) (aD A) i).2.1))
      refine z_pop dX9_nights_98 rfl ?_
      refine z_iload_n dX9_nights_99 rfl ?_
      refine z_aload_n dX9_nights_100 rfl ?_
      refine z_aload_n dX9_nights_101 rfl ?_
      refine y_getR dX9_nights_102 lf_X9_38 rfl rfl ?_
      refine y_callV1x (M' := M_X9_away) dX9_nights_105 lm_X9_206 cv_X9_away rfl (Nat.le_of_ble_eq_true rfl) (Nat.le_of_ble_eq_true rfl) rfl (m_away hp hM2 p74 hS2 hv2 _) ?_
      refine zn_iadd dX9_nights_108 ?_
      refine z_istore2 dX9_nights_109 rfl ?_
      refine zn_iinc3 dX9_nights_110 rfl ?_
      refine z_goto (tgt := 28) dX9_nights_113 (by decide) ?_
      refine z_sub (ih (i + 1) mu2 (va_up nu1 66 (sd1 (ngt (aP A) (aN A) (aD A) i).2.1)) (by omega) (S8a_tr ho ho2) hS2 (va_up_self _ _ _) (va_up66.trans hn66) ?_) ⟨Or.inr rfl, Or.inr rfl, Or.inr rfl, Or.inr rfl, Or.inl rfl, trivial⟩
      have : awy (aP A) (hpn (aP A) (ngt (aP A) (aN A) (aD A) i).2.2 (sdx (sd1 (ngt (aP A) (aN A) (aD A) i).2.1))).1 ≤ 5 := by unfold awy; omega
      show (ngt (aP A) (aN A) (aD A) i).1 + awy (aP A) (hpn (aP A) (ngt (aP A) (aN A) (aD A) i).2.2 (sdx (sd1 (ngt (aP A) (aN A) (aD A) i).2.1))).1 ≤ 5 * (i + 1)
      omega
    · refine z_bipush (v := nI 100) dX9_nights_71 rfl ?_
      refine z_bipush (v := nI 10) dX9_nights_73 rfl ?_
      refine z_iload dX9_nights_75 rfl ?_
      refine z_iconst (v := nI 4) dX9_nights_77 rfl ?_
      refine zn_idiv dX9_nights_78 (by omega) (by omega) (by omega) ?_
      refine zn_imul dX9_nights_79 ?_
      refine zn_iadd dX9_nights_80 ?_
      refine z_iload dX9_nights_81 rfl ?_
      refine z_iconst (v := nI 4) dX9_nights_83 rfl ?_
      refine zn_irem dX9_nights_84 (by omega) (by omega) (by omega) ?_
      refine zn_iadd dX9_nights_85 ?_
      refine z_goto (tgt := 95) dX9_nights_86 (by decide) ?_
      refine y_callV1 (M' := M_X9_does) dX9_nights_95 lm_X9_251 cv_X9_does rfl (Nat.le_of_ble_eq_true rfl) (Nat.le_of_ble_eq_true rfl) rfl (m_does hp hM1 hs hv (t := 100 + 10 * (sdx (sd1 (ngt (aP A) (aN A) (aD A) i).2.1) / 4) + sdx (sd1 (ngt (aP A) (aN A) (aD A) i).2.1) % 4) (by omega) _) (fun r mu2 nu2 hq => ?_)
      obtain ⟨rfl, rfl, hS2, ho2⟩ := hq
      have eh := hpn_dod (aP A) (ngt (aP A) (aN A) (aD A) i).2.2 (x := sdx (sd1 (ngt (aP A) (aN A) (aD A) i).2.1)) hm40
      rw [if_pos (by omega)] at eh
      rw [← eh] at hS2
      have hM2 := PM_8 hM1 p74 ho2
      have hv2 := hpn_V hp hv (sdx (sd1 (ngt (aP A) (aN A) (aD A) i).2.1))
      refine z_pop dX9_nights_98 rfl ?_
      refine z_iload_n dX9_nights_99 rfl ?_
      refine z_aload_n dX9_nights_100 rfl ?_
      refine z_aload_n dX9_nights_101 rfl ?_
      refine y_getR dX9_nights_102 lf_X9_38 rfl rfl ?_
      refine y_callV1x (M' := M_X9_away) dX9_nights_105 lm_X9_206 cv_X9_away rfl (Nat.le_of_ble_eq_true rfl) (Nat.le_of_ble_eq_true rfl) rfl (m_away hp hM2 p74 hS2 hv2 _) ?_
      refine zn_iadd dX9_nights_108 ?_
      refine z_istore2 dX9_nights_109 rfl ?_
      refine zn_iinc3 dX9_nights_110 rfl ?_
      refine z_goto (tgt := 28) dX9_nights_113 (by decide) ?_
      refine z_sub (ih (i + 1) mu2 (va_up nu1 66 (sd1 (ngt (aP A) (aN A) (aD A) i).2.1)) (by omega) (S8a_tr ho ho2) hS2 (va_up_self _ _ _) (va_up66.trans hn66) ?_) ⟨Or.inr rfl, Or.inr rfl, Or.inr rfl, Or.inr rfl, Or.inl rfl, trivial⟩
      have : awy (aP A) (hpn (aP A) (ngt (aP A) (aN A) (aD A) i).2.2 (sdx (sd1 (ngt (aP A) (aN A) (aD A) i).2.1))).1 ≤ 5 := by unfold awy; omega
      show (ngt (aP A) (aN A) (aD A) i).1 + awy (aP A) (hpn (aP A) (ngt (aP A) (aN A) (aD A) i).2.2 (sdx (sd1 (ngt (aP A) (aN A) (aD A) i).2.1))).1 ≤ 5 * (i + 1)
      omega
set_option maxRecDepth 4000 in
theorem r_nights {X : zX} {mu : zmu} {nu : znu} {A : AS} (hA : AV A) (hC : MR A mu nu) (x : Int32) (d : Nat) : zJ X M_X9_nights (d + 10) 0 0 0 [.ref 66, .int x, zu, zu, zu] [] 86 (zEE (mu) (nu)) (zlift (QM (f_nights A x) mu nu)) := by
  have hp := hA.1
  have hV := hA.2.1
  have h20 : pw (aP A) * ph (aP A) ≤ 20 := hA.n
  have h5 := hA.b
  refine z_aload_n dX9_nights_0 rfl ?_
  refine z_iconst (v := nI 0) dX9_nights_1 rfl ?_
  refine y_putI dX9_nights_2 lp_X9_75 rfl rfl ?_
  refine zJ_mono (Q := QM (f_nights A x) (u2 mu 66 0 (nI 0)) nu) ?_ QM_th
  replace hC := MR_m hC (Sm_th (mu := mu) (v := nI 0)) rfl
  generalize u2 mu 66 0 (nI 0) = mu at hC ⊢
  obtain ⟨hM, hG, hB, hKe, hE, hT, hD⟩ := id hC
  refine z_iload_n dX9_nights_5 rfl ?_
  refine z_i2l dX9_nights_6 ?_
  refine z_lconst (v := 1) dX9_nights_7 rfl ?_
  refine z_ldc2 (v := nL 30) dX9_nights_8 lk_X9_287 ?_
  refine y_callS3x (M' := M_X9_in) dX9_nights_11 lm_X9_81 cs_X9_in (Nat.le_of_ble_eq_true rfl) (Nat.le_of_ble_eq_true rfl) rfl (m_in _ _ _ _) ?_
  rw [in_1 (by decide)]
  refine zb_if_ne (tgt := 20) dX9_nights_14 (by decide) (fun hc14 => ?_) (fun hc14 => ?_)
  · obtain ⟨w, hw1, hw5, rfl⟩ := in1_t hc14 (by decide)
    refine z_aload_n dX9_nights_20 rfl ?_
    refine y_callV0x (M' := M_X9_begin) dX9_nights_21 lm_X9_248 cv_X9_begin rfl (Nat.le_of_ble_eq_true rfl) (Nat.le_of_ble_eq_true rfl) rfl (m_begin _) ?_
    refine z_iconst (v := nI 0) dX9_nights_24 rfl ?_
    refine z_istore2 dX9_nights_25 rfl ?_
    refine z_iconst (v := nI 0) dX9_nights_26 rfl ?_
    refine z_istore3 dX9_nights_27 rfl ?_
    refine zJ_mono (r_nights_l hA hC (m := w) hw5 d w 0 _ nu (by omega) S8_begin (PG_begin hp hG) hD rfl (Nat.zero_le _)) (fun r mu1 nu1 hq => ?_)
    have ef : f_nights A (nI w) = (nI (ngt (aP A) (aN A) (aD A) w).1, setD A (ngt (aP A) (aN A) (aD A) w).2.1) := by simp [f_nights, hc14, ix_nI (show w < 2 ^ 31 by omega)]
    rw [ef]; exact hq
  · refine z_bipush (v := -2) dX9_nights_17 rfl ?_
    exact y_ireturn dX9_nights_19 rfl (QM_rf hC (by simp [f_nights, hc14]))
set_option maxRecDepth 4000 in
theorem r_keep_l {X : zX} {mu : zmu} {nu : znu} {b : Nat} (hb : b < 2) {Q : zq} (d : Nat) (kk : zJ X M_X9_keep d 0 0 55 [.ref 66, .int (nI b), .int (nI 16)] [] 86 (zEE (uR mu 76 (cpo (16 * b) (mu 73) (mu 76) 16)) (nu)) (zlift (Q))) : ∀ n i , i + n = 16 → zJ X M_X9_keep d 0 0 26 [.ref 66, .int (nI b), .int (nI i)] [] 86 (zEE (uR mu 76 (cpo (16 * b) (mu 73) (mu 76) i)) (nu)) (zlift (Q)) := by
  intro n
  induction n with
  | zero =>
    intro i  hi
    obtain rfl : i = 16 := by omega
    refine z_iload_n dX9_keep_26 rfl ?_
    refine z_bipush (v := nI 16) dX9_keep_27 rfl ?_
    refine zn_icmp_ge (tgt := 55) dX9_keep_29 (by decide) (by omega) (by omega) (fun hc29 => ?_) (fun hc29 => by omega)
    exact kk
  | succ n ih =>
    intro i  hi
    refine z_iload_n dX9_keep_26 rfl ?_
    refine z_bipush (v := nI 16) dX9_keep_27 rfl ?_
    refine zn_icmp_ge (tgt := 55) dX9_keep_29 (by decide) (by omega) (by omega) (fun hc29 => by omega) (fun hc29 => ?_)
    refine z_aload_n dX9_keep_32 rfl ?_
    refine y_getR dX9_keep_33 lf_X9_44 rfl rfl ?_
    refine z_bipush (v := nI 16) dX9_keep_36 rfl ?_
    refine z_iload_n dX9_keep_38 rfl ?_
    refine zn_imul dX9_keep_39 ?_
    refine z_iload_n dX9_keep_40 rfl ?_
    refine zn_iadd dX9_keep_41 ?_
    refine z_aload_n dX9_keep_42 rfl ?_
    refine y_getR dX9_keep_43 lf_X9_35 rfl rfl ?_
    refine z_iload_n dX9_keep_46 rfl ?_
    refine y_ialde dX9_keep_47 rfl (by decide) (by omega) (congrFun (uR_a (by decide)) i) ?_
    refine y_iast dX9_keep_48 rfl (by decide) (by omega) ?_
    rw [cpo_s]
    refine zn_iinc2 dX9_keep_49 rfl ?_
    refine z_goto (tgt := 26) dX9_keep_52 (by decide) ?_
    exact ih (i + 1) (by omega)
def kemM (mu : zmu) (b : Nat) : zmu := uR (u2 mu 77 b 1) 76 (cpo (16 * b) (mu 73) (mu 76) 16)
theorem kemM_o {mu : zmu} {b x : Nat} (h1 : x ≠ 76) (h2 : x ≠ 77) : kemM mu b x = mu x := by unfold kemM; rw [uR_a h1, u2_rowa h2]
theorem MR_keep {A : AS} {mu : zmu} {nu : znu} {k : Nat} (hA : AV A) (h : MR A mu nu) (hk : k < 2) : MR (setK A (kpS A k)) (kemM mu k) nu := by
  obtain ⟨h1, h2, h3, h4, h5, h6, h7⟩ := h
  have e : ∀ x, x ≠ 76 → x ≠ 77 → kemM mu k x = mu x := fun x a b => kemM_o a b
  refine ⟨?_, PG_e h2 (e 73 (by decide) (by decide)), BK_e h3 (by rw [e 66 (by decide) (by decide)]) (e 75 (by decide) (by decide)), ?_, SM_e h5 (by rw [e 66 (by decide) (by decide)]) (e 78 (by decide) (by decide)) (e 79 (by decide) (by decide)) (e 80 (by decide) (by decide)), TM_e h6 (by rw [e 66 (by decide) (by decide)]) (e 67 (by decide) (by decide)), h7⟩
  · show PM (aP A) _
    unfold PM at *
    rw [e 66 (by decide) (by decide), e 68 (by decide) (by decide), e 69 (by decide) (by decide), e 70 (by decide) (by decide)]
    exact h1
  · intro i hi
    show match kpS A k i with
      | none => kemM mu k 77 i = 0
      | some s => kemM mu k 77 i = 1 ∧ PGo (aP A) s 76 (16 * i) (kemM mu k)
    by_cases hik : i = k
    · have ek : kpS A k i = some (aN A) := by simp [kpS, hik]
      rw [ek, hik]
      refine ⟨by unfold kemM; rw [uR_a (by decide), u2_s], PG_to hA.1 h2 (fun j hj => ?_)⟩
      unfold kemM; rw [uR_s, cpo_at hj]
    · have ek : kpS A k i = aK A i := by simp [kpS, hik]
      rw [ek]
      have g := h4 i hi
      have e2 : kemM mu k 77 i = mu 77 i := by unfold kemM; rw [uR_a (by decide), u2_k hik]
      cases hka : aK A i with
      | none => rw [hka] at g; simp only at g ⊢; rw [e2]; exact g
      | some s =>
        rw [hka] at g; simp only at g ⊢
        refine ⟨by rw [e2]; exact g.1, PGo_f hA.1 g.2 (fun j hj => ?_)⟩
        unfold kemM; rw [uR_s, cpo_off (by omega)]
set_option maxRecDepth 4000 in
theorem r_keep {X : zX} {mu : zmu} {nu : znu} {A : AS} (hA : AV A) (hC : MR A mu nu) (x : Int32) (d : Nat) : zJ X M_X9_keep (d + 10) 0 0 0 [.ref 66, .int x, zu] [] 86 (zEE (mu) (nu)) (zlift (QM (f_keep A x) mu nu)) := by
  have hp := hA.1
  have hV := hA.2.1
  have h20 : pw (aP A) * ph (aP A) ≤ 20 := hA.n
  have h5 := hA.b
  refine z_aload_n dX9_keep_0 rfl ?_
  refine z_iconst (v := nI 0) dX9_keep_1 rfl ?_
  refine y_putI dX9_keep_2 lp_X9_75 rfl rfl ?_
  refine zJ_mono (Q := QM (f_keep A x) (u2 mu 66 0 (nI 0)) nu) ?_ QM_th
  replace hC := MR_m hC (Sm_th (mu := mu) (v := nI 0)) rfl
  generalize u2 mu 66 0 (nI 0) = mu at hC ⊢
  obtain ⟨hM, hG, hB, hKe, hE, hT, hD⟩ := id hC
  refine z_iload_n dX9_keep_5 rfl ?_
  refine z_i2l dX9_keep_6 ?_
  refine z_lconst (v := 0) dX9_keep_7 rfl ?_
  refine z_lconst (v := 1) dX9_keep_8 rfl ?_
  refine y_callS3x (M' := M_X9_in) dX9_keep_9 lm_X9_81 cs_X9_in (Nat.le_of_ble_eq_true rfl) (Nat.le_of_ble_eq_true rfl) rfl (m_in _ _ _ _) ?_
  rw [in_01]
  refine zb_if_ne (tgt := 17) dX9_keep_12 (by decide) (fun hc12 => ?_) (fun hc12 => ?_)
  · obtain ⟨b, hb, rfl⟩ := inr_t hc12 (by decide)
    refine z_aload_n dX9_keep_17 rfl ?_
    refine y_getR dX9_keep_18 lf_X9_47 rfl rfl ?_
    refine z_iload_n dX9_keep_21 rfl ?_
    refine z_iconst (v := nI 1) dX9_keep_22 rfl ?_
    refine y_zast dX9_keep_23 rfl (by decide) hb (by first | exact Or.inl rfl | exact Or.inr rfl) ?_
    refine z_iconst (v := nI 0) dX9_keep_24 rfl ?_
    refine z_istore2 dX9_keep_25 rfl ?_
    have e73 : u2 mu 77 b (nI 1) 73 = mu 73 := u2_rowa (by decide)
    have e76 : u2 mu 77 b (nI 1) 76 = mu 76 := u2_rowa (by decide)
    have k := r_keep_l (X := X) (nu := nu) (mu := u2 mu 77 b (nI 1)) hb (Q := QM (f_keep A (nI b)) mu nu) (d + 10) ?_ 16 0 (by omega)
    · rw [cpo_0] at k; exact k
    · rw [e73, e76]
      have hC2 := MR_keep hA hC hb
      rw [show uR (u2 mu 77 b (nI 1)) 76 (cpo (16 * b) (mu 73) (mu 76) 16) = kemM mu b from rfl]
      refine z_aload_n dX9_keep_55 rfl ?_
      refine z_aload_n dX9_keep_56 rfl ?_
      refine y_getR dX9_keep_57 lf_X9_35 rfl rfl ?_
      refine y_callV1x (M' := M_X9_away) dX9_keep_60 lm_X9_206 cv_X9_away rfl (Nat.le_of_ble_eq_true rfl) (Nat.le_of_ble_eq_true rfl) rfl (m_away hp hC2.1 p73 hC2.2.1 hV _) ?_
      exact y_ireturn dX9_keep_63 rfl (QM_of (A' := setK A (kpS A b)) (by simp [f_keep, hc12, ix_nI (show b < 2 ^ 31 by omega)]; rfl) hC2 ⟨fun z hz => kemM_o (by omega) (by omega), rfl⟩)
  · refine z_iconst (v := -1) dX9_keep_15 rfl ?_
    exact y_ireturn dX9_keep_16 rfl (QM_rf hC (by simp [f_keep, hc12]))
set_option maxRecDepth 4000 in
theorem r_goOn_l {X : zX} {mu : zmu} {nu : znu} {b : Nat} (hb : b < 2) {Q : zq} (d : Nat) (kk : zJ X M_X9_goOn d 0 0 60 [.ref 66, .int (nI b), .int (nI 16)] [] 86 (zEE (uR mu 73 (cpo 0 (fun j => mu 76 (16 * b + j)) (mu 73) 16)) (nu)) (zlift (Q))) : ∀ n i , i + n = 16 → zJ X M_X9_goOn d 0 0 31 [.ref 66, .int (nI b), .int (nI i)] [] 86 (zEE (uR mu 73 (cpo 0 (fun j => mu 76 (16 * b + j)) (mu 73) i)) (nu)) (zlift (Q)) := by
  intro n
  induction n with
  | zero =>
    intro i  hi
    obtain rfl : i = 16 := by omega
    refine z_iload_n dX9_goOn_31 rfl ?_
    refine z_bipush (v := nI 16) dX9_goOn_32 rfl ?_
    refine zn_icmp_ge (tgt := 60) dX9_goOn_34 (by decide) (by omega) (by omega) (fun hc34 => ?_) (fun hc34 => by omega)
    exact kk
  | succ n ih =>
    intro i  hi
    refine z_iload_n dX9_goOn_31 rfl ?_
    refine z_bipush (v := nI 16) dX9_goOn_32 rfl ?_
    refine zn_icmp_ge (tgt := 60) dX9_goOn_34 (by decide) (by omega) (by omega) (fun hc34 => by omega) (fun hc34 => ?_)
    refine z_aload_n dX9_goOn_37 rfl ?_
    refine y_getR dX9_goOn_38 lf_X9_35 rfl rfl ?_
    refine z_iload_n dX9_goOn_41 rfl ?_
    refine z_aload_n dX9_goOn_42 rfl ?_
    refine y_getR dX9_goOn_43 lf_X9_44 rfl rfl ?_
    refine z_bipush (v := nI 16) dX9_goOn_46 rfl ?_
    refine z_iload_n dX9_goOn_48 rfl ?_
    refine zn_imul dX9_goOn_49 ?_
    refine z_iload_n dX9_goOn_50 rfl ?_
    refine zn_iadd dX9_goOn_51 ?_
    refine y_ialde dX9_goOn_52 rfl (by decide) (by omega) (congrFun (uR_a (by decide)) (16 * b + i)) ?_
    refine y_iast dX9_goOn_53 rfl (by decide) (by omega) ?_
    have ec := cpo_s (mu := mu) (a := 73) (o := 0) (i := i) (f := fun j => mu 76 (16 * b + j)) (g := mu 73)
    rw [Nat.zero_add] at ec
    rw [ec]
    refine zn_iinc2 dX9_goOn_54 rfl ?_
    refine z_goto (tgt := 31) dX9_goOn_57 (by decide) ?_
    exact ih (i + 1) (by omega)
set_option maxRecDepth 4000 in
theorem r_goOn {X : zX} {mu : zmu} {nu : znu} {A : AS} (hA : AV A) (hC : MR A mu nu) (x : Int32) (d : Nat) : zJ X M_X9_goOn (d + 10) 0 0 0 [.ref 66, .int x, zu] [] 86 (zEE (mu) (nu)) (zlift (QM (f_goOn A x) mu nu)) := by
  have hp := hA.1
  have hV := hA.2.1
  have h20 : pw (aP A) * ph (aP A) ≤ 20 := hA.n
  have h5 := hA.b
  refine z_aload_n dX9_goOn_0 rfl ?_
  refine z_iconst (v := nI 0) dX9_goOn_1 rfl ?_
  refine y_putI dX9_goOn_2 lp_X9_75 rfl rfl ?_
  refine zJ_mono (Q := QM (f_goOn A x) (u2 mu 66 0 (nI 0)) nu) ?_ QM_th
  replace hC := MR_m hC (Sm_th (mu := mu) (v := nI 0)) rfl
  generalize u2 mu 66 0 (nI 0) = mu at hC ⊢
  obtain ⟨hM, hG, hB, hKe, hE, hT, hD⟩ := id hC
  refine z_iload_n dX9_goOn_5 rfl ?_
  refine z_i2l dX9_goOn_6 ?_
  refine z_lconst (v := 0) dX9_goOn_7 rfl ?_
  refine z_lconst (v := 1) dX9_goOn_8 rfl ?_
  refine y_callS3x (M' := M_X9_in) dX9_goOn_9 lm_X9_81 cs_X9_in (Nat.le_of_ble_eq_true rfl) (Nat.le_of_ble_eq_true rfl) rfl (m_in _ _ _ _) ?_
  rw [in_01]
  refine zb_if_ne (tgt := 17) dX9_goOn_12 (by decide) (fun hc12 => ?_) (fun hc12 => ?_)
  · obtain ⟨b, hb, rfl⟩ := inr_t hc12 (by decide)
    refine z_aload_n dX9_goOn_17 rfl ?_
    refine y_getR dX9_goOn_18 lf_X9_47 rfl rfl ?_
    refine z_iload_n dX9_goOn_21 rfl ?_
    refine y_zald dX9_goOn_22 rfl (by decide) hb ?_
    have hKb := hKe b hb
    refine z_if_ne (tgt := 29) dX9_goOn_23 (by decide) (fun hc23 => ?_) (fun hc23 => ?_)
    · obtain ⟨s, hks⟩ : ∃ s, aK A b = some s := by
        cases hka : aK A b with
        | none => rw [hka] at hKb; exact absurd hKb hc23
        | some s => exact ⟨s, rfl⟩
      rw [hks] at hKb
      have hvs := hA.2.2.2.1 b hb s hks
      refine z_iconst (v := nI 0) dX9_goOn_29 rfl ?_
      refine z_istore2 dX9_goOn_30 rfl ?_
      have k := r_goOn_l (X := X) (nu := nu) (mu := mu) hb (Q := QM (f_goOn A (nI b)) mu nu) (d + 10) ?_ 16 0 (by omega)
      · rw [cpo_0] at k; exact k
      · have hr := MR_back (mu1 := u2 (uR mu 73 (cpo 0 (fun j => mu 76 (16 * b + j)) (mu 73) 16)) 66 20 (nI 0)) (s := s) (k := 0) hC (Nat.zero_le _) u2_s (PG_from hp hKb.2 (fun j hj => ?_)) (fun a h1 h2 => by rw [u2_rowa h1, uR_a h2]) (fun j hj => by rw [u2_k hj, uR_a (by decide)])
        · obtain ⟨hC2, hF2⟩ := hr
          refine z_aload_n dX9_goOn_60 rfl ?_
          refine z_iconst (v := nI 0) dX9_goOn_61 rfl ?_
          refine y_putI dX9_goOn_62 lp_X9_131 rfl rfl ?_
          refine z_aload_n dX9_goOn_65 rfl ?_
          refine z_aload_n dX9_goOn_66 rfl ?_
          refine y_getR dX9_goOn_67 lf_X9_35 rfl rfl ?_
          refine y_callV1x (M' := M_X9_away) dX9_goOn_70 lm_X9_206 cv_X9_away rfl (Nat.le_of_ble_eq_true rfl) (Nat.le_of_ble_eq_true rfl) rfl (m_away (s := s) hp hC2.1 p73 hC2.2.1 hvs _) ?_
          exact y_ireturn dX9_goOn_73 rfl (QM_of (A' := setA (setN A s) (0, (aA A).2)) (by simp [f_goOn, hc12, ix_nI (show b < 2 ^ 31 by omega), hks]) hC2 hF2)
        · rw [u2_a (by decide), uR_s]
          have ec := cpo_at (o := 0) (f := fun j => mu 76 (16 * b + j)) (g := mu 73) hj
          rw [Nat.zero_add] at ec
          exact ec
    · have hkn : aK A b = none := by
        cases hka : aK A b with
        | none => rfl
        | some s => rw [hka] at hKb; simp only at hKb; rw [hKb.1] at hc23; exact absurd hc23 (by decide)
      refine z_bipush (v := -3) dX9_goOn_26 rfl ?_
      exact y_ireturn dX9_goOn_28 rfl (QM_rf hC (by simp [f_goOn, hc12, ix_nI (show b < 2 ^ 31 by omega), hkn]))
  · refine z_iconst (v := -1) dX9_goOn_15 rfl ?_
    exact y_ireturn dX9_goOn_16 rfl (QM_rf hC (by simp [f_goOn, hc12]))
theorem nL_mul (a b : Nat) : nL a * nL b = nL (a * b) := by unfold nL; rw [Int64.ofNat_mul]
theorem nL_sub1 {a : Nat} (h : 1 ≤ a) : nL a - 1 = nL (a - 1) := by unfold nL; rw [Int64.ofNat_sub _ _ h]; rfl
theorem in_J {r : Int64} {m : Nat} (h1 : 1 ≤ m) (h2 : m < 2 ^ 63) : decide ((0 : Int64) ≤ r ∧ r ≤ nL m - 1) = decide (0 ≤ r ∧ r < nL m) := by
  rw [nL_sub1 h1]
  apply Bool.eq_iff_iff.mpr
  simp only [decide_eq_true_eq, l_le, Int64.lt_iff_toInt_lt, nL_toInt h2, nL_toInt (show m - 1 < 2 ^ 63 by omega), z64]
  omega
set_option maxRecDepth 4000 in
theorem m_lpow_l {X : zX} {mu : zmu} {nu : znu} {a m : Nat} (hm : m < 1000) (d : Nat) : ∀ n i , i + n = m → zJ X M_X9_longPower d 0 0 5 [.long (nL a), zu, .int (nI m), .long (nL (a ^ i)), zu, .int (nI i)] [] 86 (zEE (mu) (nu)) (zlift (zex (some (.long (nL (a ^ m)))) mu nu)) := by
  intro n
  induction n with
  | zero =>
    intro i  hi
    obtain rfl : i = m := by omega
    refine z_iload dX9_longPower_5 rfl ?_
    refine z_iload_n dX9_longPower_7 rfl ?_
    refine zn_icmp_ge (tgt := 21) dX9_longPower_8 (by decide) (by omega) (by omega) (fun hc8 => ?_) (fun hc8 => by omega)
    refine z_lload_n dX9_longPower_21 rfl ?_
    exact y_lreturn dX9_longPower_22 rfl ⟨rfl, rfl, rfl⟩
  | succ n ih =>
    intro i  hi
    refine z_iload dX9_longPower_5 rfl ?_
    refine z_iload_n dX9_longPower_7 rfl ?_
    refine zn_icmp_ge (tgt := 21) dX9_longPower_8 (by decide) (by omega) (by omega) (fun hc8 => by omega) (fun hc8 => ?_)
    refine z_lload_n dX9_longPower_11 rfl ?_
    refine z_lload_n dX9_longPower_12 rfl ?_
    refine z_lmul dX9_longPower_13 ?_
    rw [nL_mul, show a ^ i * a = a ^ (i + 1) from rfl]
    refine z_lstore3 dX9_longPower_14 rfl ?_
    refine zn_iinc5 dX9_longPower_15 rfl ?_
    refine z_goto (tgt := 5) dX9_longPower_18 (by decide) ?_
    exact ih (i + 1) (by omega)
set_option maxRecDepth 4000 in
theorem m_lpow {X : zX} {mu : zmu} {nu : znu} {a m : Nat} (hm : m < 1000) (d : Nat) : zJ X M_X9_longPower d 0 0 0 [.long (nL a), zu, .int (nI m), zu, zu, zu] [] 86 (zEE (mu) (nu)) (zlift (zex (some (.long (nL (a ^ m)))) mu nu)) := by
  refine z_lconst (v := nL 1) dX9_longPower_0 rfl ?_
  refine z_lstore3 dX9_longPower_1 rfl ?_
  refine z_iconst (v := nI 0) dX9_longPower_2 rfl ?_
  refine z_istore5 dX9_longPower_3 rfl ?_
  exact m_lpow_l hm d m 0 (by omega)
set_option maxRecDepth 4000 in
theorem r_judge_l {X : zX} {mu : zmu} {nu : znu} {A : AS} (hA : AV A) (hC : MR A mu nu) {b r : Nat} (hb : 1 ≤ b ∧ b ≤ 4) (hr : r < 2 ^ 63) (d : Nat) : ∀ n i mu1 s, i + n = b → S8a 74 mu mu1 → PG (aP A) s 74 mu1 → SVs (aP A) s → zJ X M_X9_judge (d + 10) 0 0 44 [.ref 66, .int (nI b), .long (nL r), zu, .int (nI i)] [] 86 (zEE (mu1) (nu)) (zlift (QM (o9 (jgR (aP A) r b n i s), A) mu nu)) := by
  intro n
  induction n with
  | zero =>
    intro i mu1 s hi
    have hp := hA.1
    have hV := hA.2.1
    have h20 : pw (aP A) * ph (aP A) ≤ 20 := hA.n
    have h5 := hA.b
    intro ho hs hv
    refine z_iload dX9_judge_44 rfl ?_
    refine z_iload_n dX9_judge_46 rfl ?_
    refine zn_icmp_ge (tgt := 85) dX9_judge_47 (by decide) (by omega) (by omega) (fun hc47 => ?_) (fun hc47 => by omega)
    refine z_bipush (v := -9) dX9_judge_85 rfl ?_
    exact y_ireturn dX9_judge_87 rfl (QM_m hC (Sm_74 ho) rfl)
  | succ n ih =>
    intro i mu1 s hi
    have hp := hA.1
    have hV := hA.2.1
    have h20 : pw (aP A) * ph (aP A) ≤ 20 := hA.n
    have h5 := hA.b
    intro ho hs hv
    have ht := dg_lt r b i
    have hpw := p1000 (b - 1 - i) (by omega)
    refine z_iload dX9_judge_44 rfl ?_
    refine z_iload_n dX9_judge_46 rfl ?_
    refine zn_icmp_ge (tgt := 85) dX9_judge_47 (by decide) (by omega) (by omega) (fun hc47 => by omega) (fun hc47 => ?_)
    refine z_aload_n dX9_judge_50 rfl ?_
    refine z_lload_n dX9_judge_51 rfl ?_
    refine z_ldc2 (v := nL 1000) dX9_judge_52 lk_X9_242 ?_
    refine z_iload_n dX9_judge_55 rfl ?_
    refine z_iconst (v := nI 1) dX9_judge_56 rfl ?_
    refine zn_isub dX9_judge_57 (by omega) ?_
    refine z_iload dX9_judge_58 rfl ?_
    refine zn_isub dX9_judge_60 (by omega) ?_
    refine y_callS2x (M' := M_X9_longPower) dX9_judge_61 lm_X9_244 cs_X9_longPower (Nat.le_of_ble_eq_true rfl) (Nat.le_of_ble_eq_true rfl) rfl (m_lpow (by omega) _) ?_
    refine zl_ldiv dX9_judge_64 hr hpw.2 hpw.1 ?_
    refine z_ldc2 (v := nL 1000) dX9_judge_65 lk_X9_242 ?_
    refine zl_lrem dX9_judge_68 (Nat.lt_of_le_of_lt (Nat.div_le_self _ _) hr) (by decide) (by decide) ?_
    refine zl_l2i dX9_judge_69 (Nat.lt_trans (Nat.mod_lt _ (by decide)) (by decide)) ?_
    rw [show r / 1000 ^ (b - 1 - i) % 1000 = dg r b i from rfl]
    refine y_callV1 (M' := M_X9_does) dX9_judge_70 lm_X9_251 cv_X9_does rfl (Nat.le_of_ble_eq_true rfl) (Nat.le_of_ble_eq_true rfl) rfl (m_does hp (PM_8 hC.1 p74 ho) hs hv ht _) (fun r1 mu2 nu2 hq => ?_)
    obtain ⟨rfl, rfl, hS2, ho2⟩ := hq
    refine zb_if_ne (tgt := 79) dX9_judge_73 (by decide) (fun hc73 => ?_) (fun hc73 => ?_)
    · refine zn_iinc4 dX9_judge_79 rfl ?_
      refine z_goto (tgt := 44) dX9_judge_82 (by decide) ?_
      have e : jgR (aP A) r b (n + 1) i s = jgR (aP A) r b n (i + 1) (dod (aP A) s (dg r b i)).2 := if_pos hc73
      rw [e]
      exact ih (i + 1) mu2 _ (by omega) (S8a_tr ho ho2) hS2 (dos_V hp hv _ _ _)
    · have e : jgR (aP A) r b (n + 1) i s = some i := if_neg (fun e => Bool.noConfusion (hc73.symm.trans e))
      refine z_iload dX9_judge_76 rfl ?_
      exact y_ireturn dX9_judge_78 rfl (QM_m hC (Sm_74 (S8a_tr ho ho2)) (by rw [e]; rfl))
set_option maxRecDepth 4000 in
theorem r_judge {X : zX} {mu : zmu} {nu : znu} {A : AS} (hA : AV A) (hC : MR A mu nu) (x : Int32) (r : Int64) (d : Nat) : zJ X M_X9_judge (d + 10) 0 0 0 [.ref 66, .int x, .long r, zu, zu] [] 86 (zEE (mu) (nu)) (zlift (QM (f_judge A x r) mu nu)) := by
  have hp := hA.1
  have hV := hA.2.1
  have h20 : pw (aP A) * ph (aP A) ≤ 20 := hA.n
  have h5 := hA.b
  refine z_aload_n dX9_judge_0 rfl ?_
  refine z_iconst (v := nI 0) dX9_judge_1 rfl ?_
  refine y_putI dX9_judge_2 lp_X9_75 rfl rfl ?_
  refine zJ_mono (Q := QM (f_judge A x r) (u2 mu 66 0 (nI 0)) nu) ?_ QM_th
  replace hC := MR_m hC (Sm_th (mu := mu) (v := nI 0)) rfl
  generalize u2 mu 66 0 (nI 0) = mu at hC ⊢
  obtain ⟨hM, hG, hB, hKe, hE, hT, hD⟩ := id hC
  refine z_iload_n dX9_judge_5 rfl ?_
  refine z_i2l dX9_judge_6 ?_
  refine z_lconst (v := 1) dX9_judge_7 rfl ?_
  refine z_ldc2 (v := nL 4) dX9_judge_8 lk_X9_240 ?_
  refine y_callS3x (M' := M_X9_in) dX9_judge_11 lm_X9_81 cs_X9_in (Nat.le_of_ble_eq_true rfl) (Nat.le_of_ble_eq_true rfl) rfl (m_in _ _ _ _) ?_
  rw [in_1 (by decide)]
  refine zb_if_eq (tgt := 34) dX9_judge_14 (by decide) (fun hc14 => ?_) (fun hc14 => ?_)
  · have g : okJ x r = false := by simp [okJ, hc14]
    refine z_bipush (v := -2) dX9_judge_34 rfl ?_
    exact y_ireturn dX9_judge_36 rfl (QM_rf hC (by simp [f_judge, g]))
  · obtain ⟨b, hb1, hb4, rfl⟩ := in1_t hc14 (by decide)
    have hpb := p1000 b (by omega)
    refine z_lload_n dX9_judge_17 rfl ?_
    refine z_lconst (v := 0) dX9_judge_18 rfl ?_
    refine z_ldc2 (v := nL 1000) dX9_judge_19 lk_X9_242 ?_
    refine z_iload_n dX9_judge_22 rfl ?_
    refine y_callS2x (M' := M_X9_longPower) dX9_judge_23 lm_X9_244 cs_X9_longPower (Nat.le_of_ble_eq_true rfl) (Nat.le_of_ble_eq_true rfl) rfl (m_lpow (by omega) _) ?_
    refine z_lconst (v := 1) dX9_judge_26 rfl ?_
    refine z_lsub dX9_judge_27 ?_
    refine y_callS3x (M' := M_X9_in) dX9_judge_28 lm_X9_81 cs_X9_in (Nat.le_of_ble_eq_true rfl) (Nat.le_of_ble_eq_true rfl) rfl (m_in _ _ _ _) ?_
    rw [in_J hpb.2 hpb.1]
    refine zb_if_ne (tgt := 37) dX9_judge_31 (by decide) (fun hc31 => ?_) (fun hc31 => ?_)
    · have g : okJ (nI b) r = true := by simp only [okJ, hc14, ix_nI (show b < 2 ^ 31 by omega), hc31, Bool.and_true]
      have h0 : 0 ≤ r := (of_decide_eq_true hc31).1
      have hr63 : lx r < 2 ^ 63 := by have := r.toInt_lt; unfold lx; omega
      refine z_aload_n dX9_judge_37 rfl ?_
      refine y_callV0x (M' := M_X9_begin) dX9_judge_38 lm_X9_248 cv_X9_begin rfl (Nat.le_of_ble_eq_true rfl) (Nat.le_of_ble_eq_true rfl) rfl (m_begin _) ?_
      refine z_iconst (v := nI 0) dX9_judge_41 rfl ?_
      refine z_istore4 dX9_judge_42 rfl ?_
      have e := nL_lx h0
      have k := r_judge_l (X := X) hA hC ⟨hb1, hb4⟩ hr63 d b 0 _ (aN A) (by omega) S8_begin (PG_begin hp hG) hV
      rw [e] at k
      refine zJ_mono k (fun r1 mu1 nu1 hq => ?_)
      have ef : f_judge A (nI b) r = (o9 (jgR (aP A) (lx r) b b 0 (aN A)), A) := by simp [f_judge, g, ix_nI (show b < 2 ^ 31 by omega)]
      rw [ef]; exact hq
    · have g : okJ (nI b) r = false := by simp only [okJ, ix_nI (show b < 2 ^ 31 by omega), hc31, Bool.and_false]
      refine z_bipush (v := -2) dX9_judge_34 rfl ?_
      exact y_ireturn dX9_judge_36 rfl (QM_rf hC (by simp [f_judge, g]))
