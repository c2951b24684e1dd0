theorem o8_9 (r : Nat) : o8 r = o9 (if r = 0 then none else some (r - 1)) := by unfold o8; split <;> rfl
theorem num_h {h : Nat} (hh : h < 20) : (h * 7 + 3) * 7 + 3 = num (480 + h) := by unfold num; omega
def orF (g : Nat → Bool) : Nat → Nat
  | 0 => 0
  | i + 1 => orF g i ||| (if g i = true then 1 * 2 ^ (i / 49) else 0)
theorem orF_bit {g : Nat → Bool} {c : Nat} : ∀ i, (orF g i).testBit c = true ↔ ∃ k, k < i ∧ g k = true ∧ k / 49 = c
  | 0 => by simp [orF]
  | i + 1 => by
    have h := orF_bit (g := g) (c := c) i
    unfold orF
    rw [Nat.testBit_or, Bool.or_eq_true, h]
    constructor
    · rintro (⟨k, hk, hg, hc⟩ | e)
      · exact ⟨k, by omega, hg, hc⟩
      · by_cases hg : g i = true
        · rw [if_pos hg, Nat.one_mul, Nat.testBit_two_pow] at e
          exact ⟨i, by omega, hg, by simpa using e⟩
        · rw [if_neg hg] at e; simp at e
    · rintro ⟨k, hk, hg, hc⟩
      by_cases hki : k = i
      · right; rw [← hki, if_pos hg, Nat.one_mul, Nat.testBit_two_pow]; simp [hc]
      · left; exact ⟨k, by omega, hg, hc⟩
def rcg (p : PT) (cut b s n k : Nat) : Bool := decide (rfn (nbr p cut b) s (nump k) ≠ 0) && decide (rfn (nbr p cut b) s (nump k) ≤ n + 1)
theorem nump_20 {k : Nat} (h : k < 980) : nump k % 20 = k / 49 := by
  have g := (num_all (nump_lt h)).2.2.1
  rw [num_p h] at g; exact g.symm
theorem orF_rch (p : PT) (cut b s n : Nat) : orF (rcg p cut b s n) 980 = rch p cut b s n := by
  apply Nat.eq_of_testBit_eq
  intro c
  apply Bool.eq_iff_iff.mpr
  rw [orF_bit]
  unfold rch
  rw [bset_bit]
  simp only [Bool.and_eq_true, decide_eq_true_eq, rcf, List.any_eq_true, List.mem_range]
  constructor
  · rintro ⟨k, hk, hg, hc⟩
    simp only [rcg, Bool.and_eq_true, decide_eq_true_eq] at hg
    exact ⟨by omega, nump k, nump_lt hk, hg.1, hg.2, by rw [nump_20 hk]; exact hc⟩
  · rintro ⟨h20, q, hq, h1, h2, h3⟩
    refine ⟨num q, num_lt hq, ?_, by rw [(num_c hq).1]; exact h3⟩
    simp only [rcg, Bool.and_eq_true, decide_eq_true_eq, nump_n hq]
    exact ⟨h1, h2⟩
set_option maxRecDepth 4000 in
theorem m_reach_l {X : zX} {mu : zmu} {nu : znu} {p : PT} {s : SC} {b n0 : Nat} (hn : n0 < 2 ^ 30) (hR : FR (BB (nbr p s.2 b) (s.1 b) 980) mu) (hrr : ∀ q, (BB (nbr p s.2 b) (s.1 b) 980).2.2 q ≤ 980) (d : Nat) : ∀ n i , i + n = 980 → zJ X M_X9_reachOf d 0 0 10 [.ref 66, .int (nI b), .int (nI n0), .int (nI (orF (rcg p s.2 b (s.1 b) n0) i)), .int (nI i)] [] 86 (zEE (mu) (nu)) (zlift (zex (some (.int (nI (rch p s.2 b (s.1 b) n0)))) mu nu)) := by
  intro n
  induction n with
  | zero =>
    intro i  hi
    obtain rfl : i = 980 := by omega
    refine z_iload dX9_reachOf_10 rfl ?_
    refine z_sipush (v := nI 980) dX9_reachOf_12 rfl ?_
    refine zn_icmp_ge (tgt := 61) dX9_reachOf_15 (by decide) (by omega) (by omega) (fun hc15 => ?_) (fun hc15 => by omega)
    refine z_iload_n dX9_reachOf_61 rfl ?_
    exact y_ireturn dX9_reachOf_62 rfl ⟨by rw [orF_rch], rfl, rfl⟩
  | succ n ih =>
    intro i  hi
    have hi9 : i < 980 := by omega
    have hq9 := nump_lt hi9
    have ef : mu 82 i = o8 (rfn (nbr p s.2 b) (s.1 b) (nump i)) := by have g := hR.1 (nump i) hq9; rw [num_p hi9] at g; exact g
    have hrq : rfn (nbr p s.2 b) (s.1 b) (nump i) ≤ 980 := hrr (nump i)
    have h19 : i / 49 ≤ 19 := by omega
    refine z_iload dX9_reachOf_10 rfl ?_
    refine z_sipush (v := nI 980) dX9_reachOf_12 rfl ?_
    refine zn_icmp_ge (tgt := 61) dX9_reachOf_15 (by decide) (by omega) (by omega) (fun hc15 => by omega) (fun hc15 => ?_)
    refine z_iload_n dX9_reachOf_18 rfl ?_
    refine z_aload_n dX9_reachOf_19 rfl ?_
    refine y_getR dX9_reachOf_20 lf_X9_63 rfl rfl ?_
    refine z_iload dX9_reachOf_23 rfl ?_
    refine y_ialde dX9_reachOf_25 rfl (by decide) (by omega) ef ?_
    refine z_bipush (v := -9) dX9_reachOf_26 rfl ?_
    refine z_icmp_eq (tgt := 52) dX9_reachOf_28 (by decide) (fun hc28 => ?_) (fun hc28 => ?_)
    · have h0 := (o8_m9 hrq).mp hc28
      have eg : rcg p s.2 b (s.1 b) n0 i = false := by simp [rcg, h0]
      refine z_iconst (v := nI 0) dX9_reachOf_52 rfl ?_
      refine zn_ior dX9_reachOf_53 ?_
      refine z_istore3 dX9_reachOf_54 rfl ?_
      refine zn_iinc4 dX9_reachOf_55 rfl ?_
      refine z_goto (tgt := 10) dX9_reachOf_58 (by decide) ?_
      have e : orF (rcg p s.2 b (s.1 b) n0) (i + 1) = orF (rcg p s.2 b (s.1 b) n0) i ||| 0 := by show orF (rcg p s.2 b (s.1 b) n0) i ||| (if rcg p s.2 b (s.1 b) n0 i = true then 1 * 2 ^ (i / 49) else 0) = _; rw [eg]; rfl
      rw [← e]; exact ih (i + 1) (by omega)
    · have h0 : rfn (nbr p s.2 b) (s.1 b) (nump i) ≠ 0 := fun e => hc28 ((o8_m9 hrq).mpr e)
      refine z_aload_n dX9_reachOf_31 rfl ?_
      refine y_getR dX9_reachOf_32 lf_X9_63 rfl rfl ?_
      refine z_iload dX9_reachOf_35 rfl ?_
      refine y_ialde dX9_reachOf_37 rfl (by decide) (by omega) (ef.trans (o8_s h0)) ?_
      refine z_iload_n dX9_reachOf_38 rfl ?_
      refine zn_icmp_gt (tgt := 52) dX9_reachOf_39 (by decide) (by omega) (by omega) (fun hc39 => ?_) (fun hc39 => ?_)
      · have eg : rcg p s.2 b (s.1 b) n0 i = false := by simp only [rcg]; rw [decide_eq_false (show ¬ rfn (nbr p s.2 b) (s.1 b) (nump i) ≤ n0 + 1 by omega), Bool.and_false]
        refine z_iconst (v := nI 0) dX9_reachOf_52 rfl ?_
        refine zn_ior dX9_reachOf_53 ?_
        refine z_istore3 dX9_reachOf_54 rfl ?_
        refine zn_iinc4 dX9_reachOf_55 rfl ?_
        refine z_goto (tgt := 10) dX9_reachOf_58 (by decide) ?_
        have e : orF (rcg p s.2 b (s.1 b) n0) (i + 1) = orF (rcg p s.2 b (s.1 b) n0) i ||| 0 := by show orF (rcg p s.2 b (s.1 b) n0) i ||| (if rcg p s.2 b (s.1 b) n0 i = true then 1 * 2 ^ (i / 49) else 0) = _; rw [eg]; rfl
        rw [← e]; exact ih (i + 1) (by omega)
      · have eg : rcg p s.2 b (s.1 b) n0 i = true := by simp only [rcg]; rw [decide_eq_true h0, decide_eq_true (show rfn (nbr p s.2 b) (s.1 b) (nump i) ≤ n0 + 1 by omega)]; rfl
        refine z_iconst (v := nI 1) dX9_reachOf_42 rfl ?_
        refine z_iload dX9_reachOf_43 rfl ?_
        refine z_bipush (v := nI 49) dX9_reachOf_45 rfl ?_
        refine zn_idiv dX9_reachOf_47 (by omega) (by omega) (by omega) ?_
        refine zn_ishl dX9_reachOf_48 (by omega) (by have : 1 * 2 ^ (i / 49) ≤ 1 * 2 ^ 20 := Nat.mul_le_mul_left 1 (Nat.pow_le_pow_right (by decide) (by omega)); omega) ?_
        refine z_goto (tgt := 53) dX9_reachOf_49 (by decide) ?_
        refine zn_ior dX9_reachOf_53 ?_
        refine z_istore3 dX9_reachOf_54 rfl ?_
        refine zn_iinc4 dX9_reachOf_55 rfl ?_
        refine z_goto (tgt := 10) dX9_reachOf_58 (by decide) ?_
        have e : orF (rcg p s.2 b (s.1 b) n0) (i + 1) = orF (rcg p s.2 b (s.1 b) n0) i ||| 1 * 2 ^ (i / 49) := by show orF (rcg p s.2 b (s.1 b) n0) i ||| (if rcg p s.2 b (s.1 b) n0 i = true then 1 * 2 ^ (i / 49) else 0) = _; rw [eg]; rfl
        rw [← e]; exact ih (i + 1) (by omega)
set_option maxRecDepth 4000 in
theorem m_reachOf {X : zX} {mu : zmu} {nu : znu} {p : PT} {s : SC} (hp : PV p) (hM : PM p mu) (hG : PG p s 73 mu) (hV : SVs p s) {b n0 : Nat} (hb : b < pb p) (hn : n0 < 2 ^ 30) (d : Nat) : zJ X M_X9_reachOf (d + 4) 0 0 0 [.ref 66, .int (nI b), .int (nI n0), zu, zu] [] 86 (zEE (mu) (nu)) (zlift (fun r mu9 nu9 => r = some (.int (nI (rch p s.2 b (s.1 b) n0))) ∧ nu9 = nu ∧ Sf mu mu9)) := by
  refine z_aload_n dX9_reachOf_0 rfl ?_
  refine z_iload_n dX9_reachOf_1 rfl ?_
  refine y_callV1 (M' := M_X9_layFar) dX9_reachOf_2 lm_X9_215 cv_X9_layFar rfl (Nat.le_of_ble_eq_true rfl) (Nat.le_of_ble_eq_true rfl) rfl (m_layFar hp hM hG hV hb _) (fun r mu1 nu1 hq => ?_)
  obtain ⟨rfl, rfl, hF, hR, hrr⟩ := hq
  refine z_iconst (v := nI 0) dX9_reachOf_5 rfl ?_
  refine z_istore3 dX9_reachOf_6 rfl ?_
  refine z_iconst (v := nI 0) dX9_reachOf_7 rfl ?_
  refine z_istore4 dX9_reachOf_8 rfl ?_
  refine zJ_mono (m_reach_l hn hR hrr (d + 4) 980 0 (by omega)) ?_
  rintro r mu2 nu2 ⟨rfl, rfl, rfl⟩
  exact ⟨rfl, rfl, hF⟩
set_option maxRecDepth 4000 in
theorem r_far {X : zX} {mu : zmu} {nu : znu} {A : AS} (hA : AV A) (hC : MR A mu nu) (x : Int32) (d : Nat) : zJ X M_X9_far (d + 10) 0 0 0 [.ref 66, .int x] [] 86 (zEE (mu) (nu)) (zlift (QM (f_far A x) mu nu)) := by
  have hp := hA.1
  have hV := hA.2.1
  have h20 : pw (aP A) * ph (aP A) ≤ 20 := hA.n
  have h5 := hA.b
  refine z_aload_n dX9_far_0 rfl ?_
  refine z_iconst (v := nI 0) dX9_far_1 rfl ?_
  refine y_putI dX9_far_2 lp_X9_75 rfl rfl ?_
  refine zJ_mono (Q := QM (f_far A x) (u2 mu 66 0 (nI 0)) nu) ?_ QM_th
  replace hC := MR_m hC (Sm_th (mu := mu) (v := nI 0)) rfl
  generalize u2 mu 66 0 (nI 0) = mu at hC ⊢
  obtain ⟨hM, hG, hB, hKe, hE, hT, hD⟩ := id hC
  refine z_aload_n dX9_far_5 rfl ?_
  refine z_iload_n dX9_far_6 rfl ?_
  refine y_callV1x (M' := M_X9_noBoy) dX9_far_7 lm_X9_191 cv_X9_noBoy rfl (Nat.le_of_ble_eq_true rfl) (Nat.le_of_ble_eq_true rfl) rfl (m_noBoy hp hM x _) ?_
  refine zb_if_eq (tgt := 15) dX9_far_10 (by decide) (fun hc10 => ?_) (fun hc10 => ?_)
  · have g : inr x (pb (aP A)) = true := by simpa using hc10
    obtain ⟨b, hb, rfl⟩ := inr_t (show inr x (pb (aP A)) = true from g) (by omega)
    refine z_aload_n dX9_far_15 rfl ?_
    refine z_iload_n dX9_far_16 rfl ?_
    refine y_callV1 (M' := M_X9_layFar) dX9_far_17 lm_X9_215 cv_X9_layFar rfl (Nat.le_of_ble_eq_true rfl) (Nat.le_of_ble_eq_true rfl) rfl (m_layFar hp hM hG hV hb _) (fun r mu1 nu1 hq => ?_)
    obtain ⟨rfl, rfl, hF, hR, hrr⟩ := hq
    have hH := (hp.2.2.2.2.2.2.2 b hb).1
    have hh := hR.1 (480 + pH (aP A) b) (by omega)
    refine z_aload_n dX9_far_20 rfl ?_
    refine y_getR dX9_far_21 lf_X9_63 rfl rfl ?_
    refine z_aload_n dX9_far_24 rfl ?_
    refine y_getR dX9_far_25 lf_X9_23 rfl rfl ?_
    refine z_iload_n dX9_far_28 rfl ?_
    refine y_ialde dX9_far_29 rfl (by decide) (by omega) ((congrFun (hF 69 (by decide) (by decide) (by decide)) b).trans (hM.2.2.2.2.2 b hb).1) ?_
    refine z_bipush (v := nI 7) dX9_far_30 rfl ?_
    refine zn_imul dX9_far_32 ?_
    refine z_iconst (v := nI 3) dX9_far_33 rfl ?_
    refine zn_iadd dX9_far_34 ?_
    refine z_bipush (v := nI 7) dX9_far_35 rfl ?_
    refine zn_imul dX9_far_37 ?_
    refine z_iconst (v := nI 3) dX9_far_38 rfl ?_
    refine zn_iadd dX9_far_39 ?_
    rw [num_h (show pH (aP A) b < 20 by omega)]
    have hnl := num_lt (show 480 + pH (aP A) b < 980 by omega)
    refine y_ialde dX9_far_40 rfl (by decide) hnl hh ?_
    exact y_ireturn dX9_far_41 rfl (QM_m hC (Sm_f hF) (by simp only [f_far, g, if_true, ix_nI (show b < 2 ^ 31 by omega), o8_9]; rfl))
  · have g : inr x (pb (aP A)) = false := by simpa using hc10
    refine z_iconst (v := -1) dX9_far_13 rfl ?_
    exact y_ireturn dX9_far_14 rfl (QM_rf hC (by simp [f_far, g]))
set_option maxRecDepth 4000 in
theorem r_reach {X : zX} {mu : zmu} {nu : znu} {A : AS} (hA : AV A) (hC : MR A mu nu) (x y : Int32) (d : Nat) : zJ X M_X9_reach (d + 10) 0 0 0 [.ref 66, .int x, .int y] [] 86 (zEE (mu) (nu)) (zlift (QM (f_reach A x y) mu nu)) := by
  have hp := hA.1
  have hV := hA.2.1
  have h20 : pw (aP A) * ph (aP A) ≤ 20 := hA.n
  have h5 := hA.b
  refine z_aload_n dX9_reach_0 rfl ?_
  refine z_iconst (v := nI 0) dX9_reach_1 rfl ?_
  refine y_putI dX9_reach_2 lp_X9_75 rfl rfl ?_
  refine zJ_mono (Q := QM (f_reach A x y) (u2 mu 66 0 (nI 0)) nu) ?_ QM_th
  replace hC := MR_m hC (Sm_th (mu := mu) (v := nI 0)) rfl
  generalize u2 mu 66 0 (nI 0) = mu at hC ⊢
  obtain ⟨hM, hG, hB, hKe, hE, hT, hD⟩ := id hC
  refine z_aload_n dX9_reach_5 rfl ?_
  refine z_iload_n dX9_reach_6 rfl ?_
  refine y_callV1x (M' := M_X9_noBoy) dX9_reach_7 lm_X9_191 cv_X9_noBoy rfl (Nat.le_of_ble_eq_true rfl) (Nat.le_of_ble_eq_true rfl) rfl (m_noBoy hp hM x _) ?_
  refine zb_if_eq (tgt := 15) dX9_reach_10 (by decide) (fun hc10 => ?_) (fun hc10 => ?_)
  · have g : inr x (pb (aP A)) = true := by simpa using hc10
    obtain ⟨b, hb, rfl⟩ := inr_t (show inr x (pb (aP A)) = true from g) (by omega)
    refine z_iload_n dX9_reach_15 rfl ?_
    refine z_i2l dX9_reach_16 ?_
    refine z_lconst (v := 0) dX9_reach_17 rfl ?_
    refine z_ldc2 (v := nL 9) dX9_reach_18 lk_X9_219 ?_
    refine y_callS3x (M' := M_X9_in) dX9_reach_21 lm_X9_81 cs_X9_in (Nat.le_of_ble_eq_true rfl) (Nat.le_of_ble_eq_true rfl) rfl (m_in _ _ _ _) ?_
    rw [in_c (m := 9) (by decide)]
    refine zb_if_eq (tgt := 36) dX9_reach_24 (by decide) (fun hc24 => ?_) (fun hc24 => ?_)
    · have g2 : inr y 10 = false := hc24
      refine z_bipush (v := -2) dX9_reach_36 rfl ?_
      exact y_ireturn dX9_reach_38 rfl (QM_rf hC (by simp [f_reach, g, g2]))
    · have g2 : inr y 10 = true := hc24
      obtain ⟨w, hw, rfl⟩ := inr_t (show inr y (10) = true from g2) (by omega)
      refine z_aload_n dX9_reach_27 rfl ?_
      refine z_iload_n dX9_reach_28 rfl ?_
      refine z_iload_n dX9_reach_29 rfl ?_
      refine y_callV2 (M' := M_X9_reachOf) dX9_reach_30 lm_X9_221 cv_X9_reachOf rfl (Nat.le_of_ble_eq_true rfl) (Nat.le_of_ble_eq_true rfl) rfl (m_reachOf hp hM hG hV hb (n0 := w) (by omega) _) (fun r mu1 nu1 hq => ?_)
      obtain ⟨rfl, rfl, hF⟩ := hq
      refine z_goto (tgt := 38) dX9_reach_33 (by decide) ?_
      exact y_ireturn dX9_reach_38 rfl (QM_m hC (Sm_f hF) (by simp [f_reach, g, g2, ix_nI (show b < 2 ^ 31 by omega), ix_nI (show w < 2 ^ 31 by omega)]))
  · have g : inr x (pb (aP A)) = false := by simpa using hc10
    refine z_iconst (v := -1) dX9_reach_13 rfl ?_
    exact y_ireturn dX9_reach_14 rfl (QM_rf hC (by simp [f_reach, g]))
