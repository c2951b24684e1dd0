def QS1 (r : Option Value) (mu : zmu) (nu : znu) : zq := fun r1 mu1 nu1 => r1 = r ∧ nu1 = nu ∧ S81 mu mu1
set_option maxRecDepth 4000 in
theorem m_isThere {X : zX} {mu : zmu} {nu : znu} {tx tz : Nat} (hx : mu 81 1 = nI tx - 1) (hz : mu 81 2 = nI tz - 1) (h1 : tx < 1000) (h2 : tz < 1000) (d : Nat) : zJ X M_X9_isThere (d + 1) 0 0 0 [.ref 66] [] 86 (zEE (mu) (nu)) (zlift (zex (some (.int (b2i (decide (1 ≤ tx ∧ tx ≤ 7) && decide (1 ≤ tz ∧ tz ≤ 7))))) mu nu)) := by
  refine z_aload_n dX9_isThere_0 rfl ?_
  refine y_getR dX9_isThere_1 lf_X9_60 rfl rfl ?_
  refine z_iconst (v := nI 1) dX9_isThere_4 rfl ?_
  refine y_ialde dX9_isThere_5 rfl (by decide) (by omega) hx ?_
  refine z_i2l dX9_isThere_6 ?_
  refine z_lconst (v := 0) dX9_isThere_7 rfl ?_
  refine z_ldc2 (v := nL 6) dX9_isThere_8 lk_X9_138 ?_
  refine y_callS3x (M' := M_X9_in) dX9_isThere_11 lm_X9_81 cs_X9_in (Nat.le_of_ble_eq_true rfl) (Nat.le_of_ble_eq_true rfl) rfl (m_in _ _ _ _) ?_
  rw [in_06 h1]
  refine zb_if_eq (tgt := 38) dX9_isThere_14 (by decide) (fun hc14 => ?_) (fun hc14 => ?_)
  · refine z_iconst (v := nI 0) dX9_isThere_38 rfl ?_
    exact y_zreturn dX9_isThere_39 rfl (by first | exact Or.inl rfl | exact Or.inr rfl | assumption) ⟨by rw [hc14]; rfl, rfl, rfl⟩
  · refine z_aload_n dX9_isThere_17 rfl ?_
    refine y_getR dX9_isThere_18 lf_X9_60 rfl rfl ?_
    refine z_iconst (v := nI 2) dX9_isThere_21 rfl ?_
    refine y_ialde dX9_isThere_22 rfl (by decide) (by omega) hz ?_
    refine z_i2l dX9_isThere_23 ?_
    refine z_lconst (v := 0) dX9_isThere_24 rfl ?_
    refine z_ldc2 (v := nL 6) dX9_isThere_25 lk_X9_138 ?_
    refine y_callS3x (M' := M_X9_in) dX9_isThere_28 lm_X9_81 cs_X9_in (Nat.le_of_ble_eq_true rfl) (Nat.le_of_ble_eq_true rfl) rfl (m_in _ _ _ _) ?_
    rw [in_06 h2]
    refine zb_if_eq (tgt := 38) dX9_isThere_31 (by decide) (fun hc31 => ?_) (fun hc31 => ?_)
    · refine z_iconst (v := nI 0) dX9_isThere_38 rfl ?_
      exact y_zreturn dX9_isThere_39 rfl (by first | exact Or.inl rfl | exact Or.inr rfl | assumption) ⟨by rw [hc14, hc31]; rfl, rfl, rfl⟩
    · refine z_iconst (v := nI 1) dX9_isThere_34 rfl ?_
      refine z_goto (tgt := 39) dX9_isThere_35 (by decide) ?_
      exact y_zreturn dX9_isThere_39 rfl (by first | exact Or.inl rfl | exact Or.inr rfl | assumption) ⟨by rw [hc14, hc31]; rfl, rfl, rfl⟩
set_option maxRecDepth 4000 in
theorem m_cellBeside {X : zX} {mu : zmu} {nu : znu} {p : PT} (hp : PV p) (hM : PM p mu) {c y : Nat} (hc : c < pw p * ph p) (hy : y < 4) (s : Bool) (d : Nat) : zJ X M_X9_cellBeside (d + 1) 0 0 0 [.ref 66, .int (nI c), .int (nI y), .int (b2i s)] [] 86 (zEE (mu) (nu)) (zlift (QS1 (some (.int (nI (nbc (pw p) (ph p) (if s = true then 0 else pd p) c y)))) mu nu)) := by
  have hS3 : S81 mu (u2 (u2 (u2 mu 81 0 (nI c)) 81 1 (nI 3)) 81 2 (nI 3)) := S81_tr S81_u (S81_tr S81_u S81_u)
  refine z_aload_n dX9_cellBeside_0 rfl ?_
  refine y_getR dX9_cellBeside_1 lf_X9_60 rfl rfl ?_
  refine z_iconst (v := nI 0) dX9_cellBeside_4 rfl ?_
  refine z_iload_n dX9_cellBeside_5 rfl ?_
  refine y_iast dX9_cellBeside_6 rfl (by decide) (by omega) ?_
  refine z_aload_n dX9_cellBeside_7 rfl ?_
  refine y_getR dX9_cellBeside_8 lf_X9_60 rfl rfl ?_
  refine z_iconst (v := nI 1) dX9_cellBeside_11 rfl ?_
  refine z_iconst (v := nI 3) dX9_cellBeside_12 rfl ?_
  refine y_iast dX9_cellBeside_13 rfl (by decide) (by omega) ?_
  refine z_aload_n dX9_cellBeside_14 rfl ?_
  refine y_getR dX9_cellBeside_15 lf_X9_60 rfl rfl ?_
  refine z_iconst (v := nI 2) dX9_cellBeside_18 rfl ?_
  refine z_iconst (v := nI 3) dX9_cellBeside_19 rfl ?_
  refine y_iast dX9_cellBeside_20 rfl (by decide) (by omega) ?_
  refine z_aload_n dX9_cellBeside_21 rfl ?_
  refine z_iload_n dX9_cellBeside_22 rfl ?_
  refine z_iload_n dX9_cellBeside_23 rfl ?_
  refine y_callV2 (M' := M_X9_goWay) dX9_cellBeside_24 lm_X9_140 cv_X9_goWay rfl (Nat.le_of_ble_eq_true rfl) (Nat.le_of_ble_eq_true rfl) rfl (m_goWay hp (PM_S hM hS3) hc hy (by rw [u2_k (by decide), u2_k (by decide), u2_s]) (by rw [u2_k (by decide), u2_s]) (u2_s (v := nI 3)) s _) (fun r mu1 nu1 hq => ?_)
  obtain ⟨rfl, rfl, hS, h0, -, -⟩ := hq
  refine z_aload_n dX9_cellBeside_27 rfl ?_
  refine y_getR dX9_cellBeside_28 lf_X9_60 rfl rfl ?_
  refine z_iconst (v := nI 0) dX9_cellBeside_31 rfl ?_
  refine y_ialde dX9_cellBeside_32 rfl (by decide) (by omega) h0 ?_
  exact y_ireturn dX9_cellBeside_33 rfl ⟨rfl, rfl, S81_tr hS3 hS⟩
set_option maxRecDepth 4000 in
theorem m_canBe {X : zX} {mu : zmu} {nu : znu} {p : PT} {s : SC} {a : Nat} (hp : PV p) (hM : PM p mu) (ha : pAt a) (hG : PG p s a mu) (hV : SVs p s) {b c : Nat} (hb : b < pb p) (hc : c < pw p * ph p) (d : Nat) : zJ X M_X9_canBe (d + 2) 0 0 0 [.ref 66, .ref a, .int (nI b), .int (nI c), zu] [] 86 (zEE (mu) (nu)) (zlift (zex (some (.int (b2i (cbe (pX p b) (kdk (pK p) s.2 c))))) mu nu)) := by
  have h5 := hp.2.2.2.2.2.1
  have hk3 := kdk_le hp (cut := s.2) hc
  have hx3 := (hp.2.2.2.2.2.2.2 b hb).2
  refine z_aload_n dX9_canBe_0 rfl ?_
  refine z_aload_n dX9_canBe_1 rfl ?_
  refine z_iload_n dX9_canBe_2 rfl ?_
  refine y_callV2x (M' := M_X9_kindOf) dX9_canBe_3 lm_X9_144 cv_X9_kindOf rfl (Nat.le_of_ble_eq_true rfl) (Nat.le_of_ble_eq_true rfl) rfl (m_kindOf hp hM ha hG hV hc _) ?_
  refine z_istore4 dX9_canBe_6 rfl ?_
  refine z_aload_n dX9_canBe_8 rfl ?_
  refine y_getR dX9_canBe_9 lf_X9_26 rfl rfl ?_
  refine z_iload_n dX9_canBe_12 rfl ?_
  refine y_ialde dX9_canBe_13 rfl (by decide) (by omega) (hM.2.2.2.2.2 b hb).2 ?_
  refine z_iconst (v := nI 1) dX9_canBe_14 rfl ?_
  refine zn_icmp_eq (tgt := 40) dX9_canBe_15 (by decide) (by omega) (by omega) (fun hc15 => ?_) (fun hc15 => ?_)
  · refine z_iconst (v := nI 1) dX9_canBe_40 rfl ?_
    refine z_goto (tgt := 45) dX9_canBe_41 (by decide) ?_
    exact y_zreturn dX9_canBe_45 rfl (by first | exact Or.inl rfl | exact Or.inr rfl | assumption) ⟨by rw [b2i_t]; simp [cbe, hc15], rfl, rfl⟩
  · refine z_iload dX9_canBe_18 rfl ?_
    refine z_iconst (v := nI 1) dX9_canBe_20 rfl ?_
    refine zn_icmp_eq (tgt := 44) dX9_canBe_21 (by decide) (by omega) (by omega) (fun hc21 => ?_) (fun hc21 => ?_)
    · refine z_iconst (v := nI 0) dX9_canBe_44 rfl ?_
      exact y_zreturn dX9_canBe_45 rfl (by first | exact Or.inl rfl | exact Or.inr rfl | assumption) ⟨by rw [b2i_f]; simp [cbe, hc15, hc21], rfl, rfl⟩
    · refine z_aload_n dX9_canBe_24 rfl ?_
      refine y_getR dX9_canBe_25 lf_X9_26 rfl rfl ?_
      refine z_iload_n dX9_canBe_28 rfl ?_
      refine y_ialde dX9_canBe_29 rfl (by decide) (by omega) (hM.2.2.2.2.2 b hb).2 ?_
      refine z_iconst (v := nI 2) dX9_canBe_30 rfl ?_
      refine zn_icmp_ne (tgt := 40) dX9_canBe_31 (by decide) (by omega) (by omega) (fun hc31 => ?_) (fun hc31 => ?_)
      · refine z_iconst (v := nI 1) dX9_canBe_40 rfl ?_
        refine z_goto (tgt := 45) dX9_canBe_41 (by decide) ?_
        exact y_zreturn dX9_canBe_45 rfl (by first | exact Or.inl rfl | exact Or.inr rfl | assumption) ⟨by rw [b2i_t]; simp [cbe, hc15, hc21, hc31], rfl, rfl⟩
      · refine z_iload dX9_canBe_34 rfl ?_
        refine z_iconst (v := nI 2) dX9_canBe_36 rfl ?_
        refine zn_icmp_eq (tgt := 44) dX9_canBe_37 (by decide) (by omega) (by omega) (fun hc37 => ?_) (fun hc37 => ?_)
        · refine z_iconst (v := nI 0) dX9_canBe_44 rfl ?_
          exact y_zreturn dX9_canBe_45 rfl (by first | exact Or.inl rfl | exact Or.inr rfl | assumption) ⟨by rw [b2i_f]; simp [cbe, hc15, hc21, hc31, hc37], rfl, rfl⟩
        · refine z_iconst (v := nI 1) dX9_canBe_40 rfl ?_
          refine z_goto (tgt := 45) dX9_canBe_41 (by decide) ?_
          exact y_zreturn dX9_canBe_45 rfl (by first | exact Or.inl rfl | exact Or.inr rfl | assumption) ⟨by rw [b2i_t]; simp [cbe, hc15, hc21, hc31, hc37], rfl, rfl⟩
def Qst (p : PT) (s : SC) (b : Nat) (mu : zmu) (nu : znu) : zq := fun r mu1 nu1 => r = none ∧ nu1 = nu ∧ S81 mu mu1 ∧ mu1 81 0 = nI (s.1 b % 20) ∧ mu1 81 1 = nI (s.1 b / 20 % 7) ∧ mu1 81 2 = nI (s.1 b / 140)
set_option maxRecDepth 4000 in
theorem m_stand {X : zX} {mu : zmu} {nu : znu} {p : PT} {s : SC} {a : Nat} (hp : PV p) (ha : pAt a) (hG : PG p s a mu) {b : Nat} (hb : b < pb p) (d : Nat) : zJ X M_X9_stand d 0 0 0 [.ref 66, .ref a, .int (nI b)] [] 86 (zEE (mu) (nu)) (zlift (Qst p s b mu nu)) := by
  have h5 := hp.2.2.2.2.2.1
  have hab := ha.b
  refine z_aload_n dX9_stand_0 rfl ?_
  refine y_getR dX9_stand_1 lf_X9_60 rfl rfl ?_
  refine z_iconst (v := nI 0) dX9_stand_4 rfl ?_
  refine z_aload_n dX9_stand_5 rfl ?_
  refine z_iload_n dX9_stand_6 rfl ?_
  refine y_ialde dX9_stand_7 ha.k (by decide) (by omega) (hG.1 b hb).1 ?_
  refine y_iast dX9_stand_8 rfl (by decide) (by omega) ?_
  refine z_aload_n dX9_stand_9 rfl ?_
  refine y_getR dX9_stand_10 lf_X9_60 rfl rfl ?_
  refine z_iconst (v := nI 1) dX9_stand_13 rfl ?_
  refine z_aload_n dX9_stand_14 rfl ?_
  refine z_iconst (v := nI 5) dX9_stand_15 rfl ?_
  refine z_iload_n dX9_stand_16 rfl ?_
  refine zn_iadd dX9_stand_17 ?_
  refine y_ialde dX9_stand_18 ha.k (by decide) (by omega) ((u2_a (by omega)).trans (hG.1 b hb).2.1) ?_
  refine y_iast dX9_stand_19 rfl (by decide) (by omega) ?_
  refine z_aload_n dX9_stand_20 rfl ?_
  refine y_getR dX9_stand_21 lf_X9_60 rfl rfl ?_
  refine z_iconst (v := nI 2) dX9_stand_24 rfl ?_
  refine z_aload_n dX9_stand_25 rfl ?_
  refine z_bipush (v := nI 10) dX9_stand_26 rfl ?_
  refine z_iload_n dX9_stand_28 rfl ?_
  refine zn_iadd dX9_stand_29 ?_
  refine y_ialde dX9_stand_30 ha.k (by decide) (by omega) ((u2_a (by omega)).trans ((u2_a (by omega)).trans (hG.1 b hb).2.2)) ?_
  refine y_iast dX9_stand_31 rfl (by decide) (by omega) ?_
  exact y_return dX9_stand_32 rfl ⟨rfl, rfl, S81_tr S81_u (S81_tr S81_u S81_u), by rw [u2_k (by decide), u2_k (by decide), u2_s], by rw [u2_k (by decide), u2_s], u2_s⟩
theorem gt_lt {w h c y x : Nat} (hx : x < 7) : gtx w h c y x < 1000 ∧ gtz w h c y x < 1000 := by
  have := shn_le w h c y
  unfold gtx gtz
  constructor <;> split <;> omega
theorem stp_t {w h dd pl y : Nat} (hy : y < 4) (hpl : pl < 980) : stp w h dd pl y = if (1 ≤ gtx w h (pl % 20) y (pl / 20 % 7) ∧ gtx w h (pl % 20) y (pl / 20 % 7) ≤ 7) ∧ (1 ≤ gtz w h (pl % 20) y (pl / 140) ∧ gtz w h (pl % 20) y (pl / 140) ≤ 7) then some (nbc w h dd (pl % 20) y + 20 * (gtx w h (pl % 20) y (pl / 20 % 7) - 1) + 140 * (gtz w h (pl % 20) y (pl / 140) - 1)) else none := by
  have h7 : pl / 140 < 7 := by omega
  have h8 : pl / 20 % 7 < 7 := by omega
  by_cases h2 : y < 2
  · rw [stp_x h2]
    simp only [gtx, gtz, h2, if_true]
    by_cases g : 1 ≤ pl / 20 % 7 + shn w h (pl % 20) y ∧ pl / 20 % 7 + shn w h (pl % 20) y ≤ 7
    · rw [if_pos g, if_pos ⟨g, by omega, by omega⟩]; rfl
    · rw [if_neg g, if_neg (fun e => g e.1)]
  · rw [stp_z h2]
    simp only [gtx, gtz, h2, if_false]
    by_cases g : 1 ≤ pl / 140 + shn w h (pl % 20) y ∧ pl / 140 + shn w h (pl % 20) y ≤ 7
    · rw [if_pos g, if_pos ⟨⟨by omega, by omega⟩, g⟩]; rfl
    · rw [if_neg g, if_neg (fun e => g e.2)]
/-- the three numbers of a place -/
def sp3 (q : Nat) (mu : zmu) : Prop := mu 81 0 = nI (q % 20) ∧ mu 81 1 = nI (q / 20 % 7) ∧ mu 81 2 = nI (q / 140)
theorem nI_sub1 {t : Nat} (h : 1 ≤ t) : nI t - 1 = nI (t - 1) := pk_sub h
theorem sp3_of {c tx tz : Nat} {mu : zmu} (hc : c < 20) (h1 : 1 ≤ tx) (h2 : tx ≤ 7) (h3 : 1 ≤ tz) (e0 : mu 81 0 = nI c) (e1 : mu 81 1 = nI tx - 1) (e2 : mu 81 2 = nI tz - 1) : sp3 (c + 20 * (tx - 1) + 140 * (tz - 1)) mu := by
  refine ⟨by rw [e0]; exact nI_e (by omega), by rw [e1, nI_sub1 h1]; exact nI_e (by omega), by rw [e2, nI_sub1 h3]; exact nI_e (by omega)⟩
def Qcg (o : Option Nat) (mu : zmu) (nu : znu) : zq := fun r mu1 nu1 => r = some (.int (b2i o.isSome)) ∧ nu1 = nu ∧ S81 mu mu1 ∧ ∀ q, o = some q → sp3 q mu1
/-- where the spot is by a way; then, is it there, and can the boy be there -/
theorem pon_at {p : PT} (hp : PV p) {cut b pl y : Nat} (hy : y < 4) (hpl : pl < 980) (hc : pl % 20 < pw p * ph p) : pon p cut b pl y = if (decide (1 ≤ gtx (pw p) (ph p) (pl % 20) y (pl / 20 % 7) ∧ gtx (pw p) (ph p) (pl % 20) y (pl / 20 % 7) ≤ 7) && decide (1 ≤ gtz (pw p) (ph p) (pl % 20) y (pl / 140) ∧ gtz (pw p) (ph p) (pl % 20) y (pl / 140) ≤ 7)) = true then (if cbe (pX p b) (kdk (pK p) cut (nbc (pw p) (ph p) (pdx p (pX p b)) (pl % 20) y)) = true then some (nbc (pw p) (ph p) (pdx p (pX p b)) (pl % 20) y + 20 * (gtx (pw p) (ph p) (pl % 20) y (pl / 20 % 7) - 1) + 140 * (gtz (pw p) (ph p) (pl % 20) y (pl / 140) - 1)) else none) else none := by
  have e := stp_t (w := pw p) (h := ph p) (dd := pdx p (pX p b)) hy hpl
  have h20 := hp.n20
  have hn := nbc_lt hp (pdx_lt hp (pX p b)) hc hy
  by_cases g : (1 ≤ gtx (pw p) (ph p) (pl % 20) y (pl / 20 % 7) ∧ gtx (pw p) (ph p) (pl % 20) y (pl / 20 % 7) ≤ 7) ∧ (1 ≤ gtz (pw p) (ph p) (pl % 20) y (pl / 140) ∧ gtz (pw p) (ph p) (pl % 20) y (pl / 140) ≤ 7)
  · rw [if_pos g] at e
    have hbb : (decide (1 ≤ gtx (pw p) (ph p) (pl % 20) y (pl / 20 % 7) ∧ gtx (pw p) (ph p) (pl % 20) y (pl / 20 % 7) ≤ 7) && decide (1 ≤ gtz (pw p) (ph p) (pl % 20) y (pl / 140) ∧ gtz (pw p) (ph p) (pl % 20) y (pl / 140) ≤ 7)) = true := by simp only [Bool.and_eq_true, decide_eq_true_eq]; exact g
    have e2 : (nbc (pw p) (ph p) (pdx p (pX p b)) (pl % 20) y + 20 * (gtx (pw p) (ph p) (pl % 20) y (pl / 20 % 7) - 1) + 140 * (gtz (pw p) (ph p) (pl % 20) y (pl / 140) - 1)) % 20 = nbc (pw p) (ph p) (pdx p (pX p b)) (pl % 20) y := by omega
    rw [pon_some e, e2, if_pos hbb]
  · rw [if_neg g] at e
    rw [pon_none e, if_neg (by simp only [Bool.and_eq_true, decide_eq_true_eq]; exact g)]
set_option maxRecDepth 4000 in
theorem m_spotGo {X : zX} {mu : zmu} {nu : znu} {p : PT} {s : SC} {a : Nat} (hp : PV p) (hM : PM p mu) (ha : pAt a) (hG : PG p s a mu) (hV : SVs p s) {b y pl : Nat} (hb : b < pb p) (hy : y < 4) (hpl : pl < 980) (hcp : pl % 20 < pw p * ph p) (h0 : mu 81 0 = nI (pl % 20)) (h1 : mu 81 1 = nI (pl / 20 % 7)) (h2 : mu 81 2 = nI (pl / 140)) (d : Nat) : zJ X M_X9_goWay d 0 0 0 [.ref 66, .int (nI y), .int (b2i (pX p b == 3)), zu, zu, zu, zu] [] 86 (zEE (mu) (nu)) (zlift (Qg p (pdx p (pX p b)) (pl % 20) y (pl / 20 % 7) (pl / 140) mu nu)) := by
  have k := m_goWay (X := X) (nu := nu) hp hM hcp hy h0 h1 h2 (pX p b == 3) d
  rw [pdx_b] at k
  exact k
set_option maxRecDepth 4000 in
theorem m_canGo {X : zX} {mu : zmu} {nu : znu} {p : PT} {s : SC} {a : Nat} (hp : PV p) (hM : PM p mu) (ha : pAt a) (hG : PG p s a mu) (hV : SVs p s) {b y : Nat} (hb : b < pb p) (hy : y < 4) (d : Nat) : zJ X M_X9_canGo (d + 3) 0 0 0 [.ref 66, .ref a, .int (nI b), .int (nI y)] [] 86 (zEE (mu) (nu)) (zlift (Qcg (pon p s.2 b (s.1 b) y) mu nu)) := by
  have h5 := hp.2.2.2.2.2.1
  have hPb := hV.1 b hb
  have hx3 := (hp.2.2.2.2.2.2.2 b hb).2
  refine z_aload_n dX9_canGo_0 rfl ?_
  refine z_aload_n dX9_canGo_1 rfl ?_
  refine z_iload_n dX9_canGo_2 rfl ?_
  refine y_callV2 (M' := M_X9_stand) dX9_canGo_3 lm_X9_148 cv_X9_stand rfl (Nat.le_of_ble_eq_true rfl) (Nat.le_of_ble_eq_true rfl) rfl (m_stand hp ha hG hb _) (fun r mu1 nu1 hq => ?_)
  obtain ⟨rfl, rfl, hS, g0, g1, g2⟩ := hq
  refine z_aload_n dX9_canGo_6 rfl ?_
  refine z_iload_n dX9_canGo_7 rfl ?_
  refine z_aload_n dX9_canGo_8 rfl ?_
  refine y_getR dX9_canGo_9 lf_X9_26 rfl rfl ?_
  refine z_iload_n dX9_canGo_12 rfl ?_
  refine y_ialde dX9_canGo_13 rfl (by decide) (by omega) ((congrFun (hS 70 (by decide)) b).trans (hM.2.2.2.2.2 b hb).2) ?_
  refine z_iconst (v := nI 3) dX9_canGo_14 rfl ?_
  refine zn_icmp_ne (tgt := 22) dX9_canGo_15 (by decide) (by omega) (by omega) (fun hc15 => ?_) (fun hc15 => ?_)
  · have eX : b2i (pX p b == 3) = nI 0 := b2i_f (by simp [hc15])
    refine z_iconst (v := nI 0) dX9_canGo_22 rfl ?_
    rw [← eX]
    refine y_callV2 (M' := M_X9_goWay) dX9_canGo_23 lm_X9_140 cv_X9_goWay rfl (Nat.le_of_ble_eq_true rfl) (Nat.le_of_ble_eq_true rfl) rfl (m_spotGo hp (PM_S hM hS) ha (PG_S hG ha hS) hV hb hy hPb.1 hPb.2 g0 g1 g2 _) (fun r mu2 nu2 hq => ?_)
    obtain ⟨rfl, rfl, hS2, e0, e1, e2⟩ := hq
    have hSS := S81_tr hS hS2
    have hM2 := PM_S hM hSS
    have hG2 := PG_S hG ha hSS
    have hgx := (gt_lt (w := pw p) (h := ph p) (c := s.1 b % 20) (y := y) (x := s.1 b / 20 % 7) (by omega)).1
    have hgz := (gt_lt (w := pw p) (h := ph p) (c := s.1 b % 20) (y := y) (x := s.1 b / 140) (by omega)).2
    have hn := nbc_lt hp (pdx_lt hp (pX p b)) hPb.2 hy
    have h20 := hp.n20
    have epo := pon_at hp (cut := s.2) (b := b) hy hPb.1 hPb.2
    refine z_aload_n dX9_canGo_26 rfl ?_
    refine y_callV0x (M' := M_X9_isThere) dX9_canGo_27 lm_X9_152 cv_X9_isThere rfl (Nat.le_of_ble_eq_true rfl) (Nat.le_of_ble_eq_true rfl) rfl (m_isThere e1 e2 hgx hgz _) ?_
    refine zb_if_eq (tgt := 52) dX9_canGo_30 (by decide) (fun hc30 => ?_) (fun hc30 => ?_)
    · refine z_iconst (v := nI 0) dX9_canGo_52 rfl ?_
      exact y_zreturn dX9_canGo_53 rfl (Or.inl rfl) (by rw [epo, hc30]; exact ⟨rfl, rfl, hSS, fun q e => by simp at e⟩)
    · refine z_aload_n dX9_canGo_33 rfl ?_
      refine z_aload_n dX9_canGo_34 rfl ?_
      refine z_iload_n dX9_canGo_35 rfl ?_
      refine z_aload_n dX9_canGo_36 rfl ?_
      refine y_getR dX9_canGo_37 lf_X9_60 rfl rfl ?_
      refine z_iconst (v := nI 0) dX9_canGo_40 rfl ?_
      refine y_ialde dX9_canGo_41 rfl (by decide) (by omega) e0 ?_
      refine y_callV3x (M' := M_X9_canBe) dX9_canGo_42 lm_X9_155 cv_X9_canBe rfl (Nat.le_of_ble_eq_true rfl) (Nat.le_of_ble_eq_true rfl) rfl (m_canBe hp hM2 ha hG2 hV hb hn _) ?_
      refine zb_if_eq (tgt := 52) dX9_canGo_45 (by decide) (fun hc45 => ?_) (fun hc45 => ?_)
      · refine z_iconst (v := nI 0) dX9_canGo_52 rfl ?_
        exact y_zreturn dX9_canGo_53 rfl (Or.inl rfl) (by rw [epo, hc30, hc45]; exact ⟨rfl, rfl, hSS, fun q e => by simp at e⟩)
      · refine z_iconst (v := nI 1) dX9_canGo_48 rfl ?_
        refine z_goto (tgt := 53) dX9_canGo_49 (by decide) ?_
        exact y_zreturn dX9_canGo_53 rfl (Or.inr rfl) (by
              rw [epo, hc30, hc45]
              simp only [Bool.and_eq_true, decide_eq_true_eq] at hc30
              refine ⟨rfl, rfl, hSS, fun q e => ?_⟩
              simp only [if_true, Option.some.injEq] at e
              rw [← e]
              exact sp3_of (by omega) hc30.1.1 hc30.1.2 hc30.2.1 e0 e1 e2)
  · have eX : b2i (pX p b == 3) = nI 1 := b2i_t (by simp [hc15])
    refine z_iconst (v := nI 1) dX9_canGo_18 rfl ?_
    refine z_goto (tgt := 23) dX9_canGo_19 (by decide) ?_
    rw [← eX]
    refine y_callV2 (M' := M_X9_goWay) dX9_canGo_23 lm_X9_140 cv_X9_goWay rfl (Nat.le_of_ble_eq_true rfl) (Nat.le_of_ble_eq_true rfl) rfl (m_spotGo hp (PM_S hM hS) ha (PG_S hG ha hS) hV hb hy hPb.1 hPb.2 g0 g1 g2 _) (fun r mu2 nu2 hq => ?_)
    obtain ⟨rfl, rfl, hS2, e0, e1, e2⟩ := hq
    have hSS := S81_tr hS hS2
    have hM2 := PM_S hM hSS
    have hG2 := PG_S hG ha hSS
    have hgx := (gt_lt (w := pw p) (h := ph p) (c := s.1 b % 20) (y := y) (x := s.1 b / 20 % 7) (by omega)).1
    have hgz := (gt_lt (w := pw p) (h := ph p) (c := s.1 b % 20) (y := y) (x := s.1 b / 140) (by omega)).2
    have hn := nbc_lt hp (pdx_lt hp (pX p b)) hPb.2 hy
    have h20 := hp.n20
    have epo := pon_at hp (cut := s.2) (b := b) hy hPb.1 hPb.2
    refine z_aload_n dX9_canGo_26 rfl ?_
    refine y_callV0x (M' := M_X9_isThere) dX9_canGo_27 lm_X9_152 cv_X9_isThere rfl (Nat.le_of_ble_eq_true rfl) (Nat.le_of_ble_eq_true rfl) rfl (m_isThere e1 e2 hgx hgz _) ?_
    refine zb_if_eq (tgt := 52) dX9_canGo_30 (by decide) (fun hc30 => ?_) (fun hc30 => ?_)
    · refine z_iconst (v := nI 0) dX9_canGo_52 rfl ?_
      exact y_zreturn dX9_canGo_53 rfl (Or.inl rfl) (by rw [epo, hc30]; exact ⟨rfl, rfl, hSS, fun q e => by simp at e⟩)
    · refine z_aload_n dX9_canGo_33 rfl ?_
      refine z_aload_n dX9_canGo_34 rfl ?_
      refine z_iload_n dX9_canGo_35 rfl ?_
      refine z_aload_n dX9_canGo_36 rfl ?_
      refine y_getR dX9_canGo_37 lf_X9_60 rfl rfl ?_
      refine z_iconst (v := nI 0) dX9_canGo_40 rfl ?_
      refine y_ialde dX9_canGo_41 rfl (by decide) (by omega) e0 ?_
      refine y_callV3x (M' := M_X9_canBe) dX9_canGo_42 lm_X9_155 cv_X9_canBe rfl (Nat.le_of_ble_eq_true rfl) (Nat.le_of_ble_eq_true rfl) rfl (m_canBe hp hM2 ha hG2 hV hb hn _) ?_
      refine zb_if_eq (tgt := 52) dX9_canGo_45 (by decide) (fun hc45 => ?_) (fun hc45 => ?_)
      · refine z_iconst (v := nI 0) dX9_canGo_52 rfl ?_
        exact y_zreturn dX9_canGo_53 rfl (Or.inl rfl) (by rw [epo, hc30, hc45]; exact ⟨rfl, rfl, hSS, fun q e => by simp at e⟩)
      · refine z_iconst (v := nI 1) dX9_canGo_48 rfl ?_
        refine z_goto (tgt := 53) dX9_canGo_49 (by decide) ?_
        exact y_zreturn dX9_canGo_53 rfl (Or.inr rfl) (by
              rw [epo, hc30, hc45]
              simp only [Bool.and_eq_true, decide_eq_true_eq] at hc30
              refine ⟨rfl, rfl, hSS, fun q e => ?_⟩
              simp only [if_true, Option.some.injEq] at e
              rw [← e]
              exact sp3_of (by omega) hc30.1.1 hc30.1.2 hc30.2.1 e0 e1 e2)
def S8a (a : Nat) (mu mu1 : zmu) : Prop := ∀ z, z ≠ 81 → z ≠ a → mu1 z = mu z
theorem S8a_rf {a : Nat} {mu : zmu} : S8a a mu mu := fun _ _ _ => rfl
theorem S8a_tr {a : Nat} {m1 m2 m3 : zmu} (h : S8a a m1 m2) (g : S8a a m2 m3) : S8a a m1 m3 := fun z h1 h2 => (g z h1 h2).trans (h z h1 h2)
theorem S8a_S {a : Nat} {mu mu1 : zmu} (h : S81 mu mu1) : S8a a mu mu1 := fun z h1 _ => h z h1
theorem S8a_u {a k : Nat} {v : Int32} {mu : zmu} : S8a a mu (u2 mu a k v) := fun z _ h2 => u2_rowa h2
theorem PM_8 {p : PT} {a : Nat} {mu mu1 : zmu} (h : PM p mu) (ha : pAt a) (e : S8a a mu mu1) : PM p mu1 := by
  have := ha.b
  unfold PM at *; rw [e 66 (by decide) (by omega), e 68 (by decide) (by omega), e 69 (by decide) (by omega), e 70 (by decide) (by omega)]; exact h
def Qp (p : PT) (s : SC) (a : Nat) (r : Option Value) (mu : zmu) (nu : znu) : zq := fun r1 mu1 nu1 => r1 = r ∧ nu1 = nu ∧ PG p s a mu1 ∧ S8a a mu mu1
def pgw (a b : Nat) (v0 v1 v2 : Int32) (mu : zmu) : zmu := u2 (u2 (u2 mu a b v0) a (5 + b) v1) a (10 + b) v2
theorem pgw_o {a b : Nat} {v0 v1 v2 : Int32} {mu : zmu} : S8a a mu (pgw a b v0 v1 v2 mu) := S8a_tr S8a_u (S8a_tr S8a_u S8a_u)
theorem PG_w {p : PT} {s : SC} {a b q : Nat} {mu : zmu} (hp : PV p) (hG : PG p s a mu) (hb : b < pb p) {v0 v1 v2 : Int32} (e0 : v0 = nI (q % 20)) (e1 : v1 = nI (q / 20 % 7)) (e2 : v2 = nI (q / 140)) : PG p (upP s.1 b q, s.2) a (pgw a b v0 v1 v2 mu) := by
  have h5 := hp.2.2.2.2.2.1
  refine ⟨fun i hi => ?_, ?_⟩
  · show _ = nI ((if i = b then q else s.1 i) % 20) ∧ _ = nI ((if i = b then q else s.1 i) / 20 % 7) ∧ _ = nI ((if i = b then q else s.1 i) / 140)
    unfold pgw
    by_cases hib : i = b
    · subst hib
      rw [if_pos rfl, u2_k (show i ≠ 10 + i by omega), u2_k (show i ≠ 5 + i by omega), u2_s, u2_k (show 5 + i ≠ 10 + i by omega), u2_s, u2_s]
      exact ⟨e0, e1, e2⟩
    · rw [if_neg hib, u2_k (show i ≠ 10 + b by omega), u2_k (show i ≠ 5 + b by omega), u2_k hib, u2_k (show 5 + i ≠ 10 + b by omega), u2_k (show 5 + i ≠ 5 + b by omega), u2_k (show 5 + i ≠ b by omega), u2_k (show 10 + i ≠ 10 + b by omega), u2_k (show 10 + i ≠ 5 + b by omega), u2_k (show 10 + i ≠ b by omega)]
      exact hG.1 i hi
  · unfold pgw
    rw [u2_k (show 15 ≠ 10 + b by omega), u2_k (show 15 ≠ 5 + b by omega), u2_k (show 15 ≠ b by omega)]
    exact hG.2
theorem goS_n {p : PT} {s : SC} {b y : Nat} (h : pon p s.2 b (s.1 b) y = none) : goS p s b y = s := by simp [goS, h]
theorem goS_s {p : PT} {s : SC} {b y q : Nat} (h : pon p s.2 b (s.1 b) y = some q) : goS p s b y = (upP s.1 b q, s.2) := by simp [goS, h]
set_option maxRecDepth 4000 in
theorem m_goStep {X : zX} {mu : zmu} {nu : znu} {p : PT} {s : SC} {a : Nat} (hp : PV p) (hM : PM p mu) (ha : pAt a) (hG : PG p s a mu) (hV : SVs p s) {b y : Nat} (hb : b < pb p) (hy : y < 4) (d : Nat) : zJ X M_X9_goStep (d + 4) 0 0 0 [.ref 66, .ref a, .int (nI b), .int (nI y), zu] [] 86 (zEE (mu) (nu)) (zlift (Qp p (goS p s b y) a (some (.int (b2i (pon p s.2 b (s.1 b) y).isSome))) mu nu)) := by
  have h5 := hp.2.2.2.2.2.1
  have hab := ha.b
  refine z_aload_n dX9_goStep_0 rfl ?_
  refine z_aload_n dX9_goStep_1 rfl ?_
  refine z_iload_n dX9_goStep_2 rfl ?_
  refine z_iload_n dX9_goStep_3 rfl ?_
  refine y_callV3 (M' := M_X9_canGo) dX9_goStep_4 lm_X9_159 cv_X9_canGo rfl (Nat.le_of_ble_eq_true rfl) (Nat.le_of_ble_eq_true rfl) rfl (m_canGo hp hM ha hG hV hb hy _) (fun r mu1 nu1 hq => ?_)
  obtain ⟨rfl, rfl, hS, h3⟩ := hq
  have hG1 := PG_S hG ha hS
  refine z_istore4 dX9_goStep_7 rfl ?_
  refine z_iload dX9_goStep_9 rfl ?_
  refine zb_if_eq (tgt := 46) dX9_goStep_11 (by decide) (fun hc11 => ?_) (fun hc11 => ?_)
  · have e : pon p s.2 b (s.1 b) y = none := Option.not_isSome_iff_eq_none.mp (by rw [hc11]; decide)
    refine z_iload dX9_goStep_46 rfl ?_
    exact y_zreturn dX9_goStep_48 rfl (b2i_01 _) (by rw [goS_n e]; exact ⟨rfl, rfl, hG1, S8a_S hS⟩)
  · obtain ⟨q, e⟩ := Option.isSome_iff_exists.mp hc11
    obtain ⟨g0, g1, g2⟩ := h3 q e
    refine z_aload_n dX9_goStep_14 rfl ?_
    refine z_iload_n dX9_goStep_15 rfl ?_
    refine z_aload_n dX9_goStep_16 rfl ?_
    refine y_getR dX9_goStep_17 lf_X9_60 rfl rfl ?_
    refine z_iconst (v := nI 0) dX9_goStep_20 rfl ?_
    refine y_ialde dX9_goStep_21 rfl (by decide) (by omega) g0 ?_
    refine y_iast dX9_goStep_22 ha.k (by decide) (by omega) ?_
    refine z_aload_n dX9_goStep_23 rfl ?_
    refine z_iconst (v := nI 5) dX9_goStep_24 rfl ?_
    refine z_iload_n dX9_goStep_25 rfl ?_
    refine zn_iadd dX9_goStep_26 ?_
    refine z_aload_n dX9_goStep_27 rfl ?_
    refine y_getR dX9_goStep_28 lf_X9_60 rfl rfl ?_
    refine z_iconst (v := nI 1) dX9_goStep_31 rfl ?_
    refine y_ialde dX9_goStep_32 rfl (by decide) (by omega) ((u2_a (by omega)).trans g1) ?_
    refine y_iast dX9_goStep_33 ha.k (by decide) (by omega) ?_
    refine z_aload_n dX9_goStep_34 rfl ?_
    refine z_bipush (v := nI 10) dX9_goStep_35 rfl ?_
    refine z_iload_n dX9_goStep_37 rfl ?_
    refine zn_iadd dX9_goStep_38 ?_
    refine z_aload_n dX9_goStep_39 rfl ?_
    refine y_getR dX9_goStep_40 lf_X9_60 rfl rfl ?_
    refine z_iconst (v := nI 2) dX9_goStep_43 rfl ?_
    refine y_ialde dX9_goStep_44 rfl (by decide) (by omega) ((u2_a (by omega)).trans ((u2_a (by omega)).trans g2)) ?_
    refine y_iast dX9_goStep_45 ha.k (by decide) (by omega) ?_
    refine z_iload dX9_goStep_46 rfl ?_
    exact y_zreturn dX9_goStep_48 rfl (b2i_01 _) (by rw [goS_s e]; exact ⟨rfl, rfl, PG_w hp hG1 hb rfl rfl rfl, S8a_tr (S8a_S hS) pgw_o⟩)
theorem hmf_eq {p : PT} (hp : PV p) {P : Nat → Nat} {cut b : Nat} (hV : SV p P cut) (hb : b < pb p) : hmf p P b = (P b % 20 == pH p b && (P b / 20 % 7 == 3 && P b / 140 == 3)) := by
  have h1 := (hV.1 b hb).1
  have h2 := (hp.2.2.2.2.2.2.2 b hb).1
  have h20 := hp.n20
  apply Bool.eq_iff_iff.mpr
  simp only [hmf, Bool.and_eq_true, beq_iff_eq]
  omega
set_option maxRecDepth 4000 in
theorem m_isHome {X : zX} {mu : zmu} {nu : znu} {p : PT} {s : SC} {a : Nat} (hp : PV p) (hM : PM p mu) (ha : pAt a) (hG : PG p s a mu) (hV : SVs p s) {b : Nat} (hb : b < pb p) (d : Nat) : zJ X M_X9_isHome d 0 0 0 [.ref 66, .ref a, .int (nI b)] [] 86 (zEE (mu) (nu)) (zlift (zex (some (.int (b2i (hmf p s.1 b)))) mu nu)) := by
  have h5 := hp.2.2.2.2.2.1
  have hPb := hV.1 b hb
  have hHb := (hp.2.2.2.2.2.2.2 b hb).1
  have h20 := hp.n20
  rw [hmf_eq hp hV hb]
  refine z_aload_n dX9_isHome_0 rfl ?_
  refine z_iload_n dX9_isHome_1 rfl ?_
  refine y_ialde dX9_isHome_2 ha.k (by decide) (by omega) (hG.1 b hb).1 ?_
  refine z_aload_n dX9_isHome_3 rfl ?_
  refine y_getR dX9_isHome_4 lf_X9_23 rfl rfl ?_
  refine z_iload_n dX9_isHome_7 rfl ?_
  refine y_ialde dX9_isHome_8 rfl (by decide) (by omega) (hM.2.2.2.2.2 b hb).1 ?_
  refine zn_icmp_ne (tgt := 35) dX9_isHome_9 (by decide) (by omega) (by omega) (fun hc9 => ?_) (fun hc9 => ?_)
  · refine z_iconst (v := nI 0) dX9_isHome_35 rfl ?_
    exact y_zreturn dX9_isHome_36 rfl (by first | exact Or.inl rfl | exact Or.inr rfl | assumption) ⟨by rw [b2i_f]; simp [hc9], rfl, rfl⟩
  · refine z_aload_n dX9_isHome_12 rfl ?_
    refine z_iconst (v := nI 5) dX9_isHome_13 rfl ?_
    refine z_iload_n dX9_isHome_14 rfl ?_
    refine zn_iadd dX9_isHome_15 ?_
    refine y_ialde dX9_isHome_16 ha.k (by decide) (by omega) (hG.1 b hb).2.1 ?_
    refine z_iconst (v := nI 3) dX9_isHome_17 rfl ?_
    refine zn_icmp_ne (tgt := 35) dX9_isHome_18 (by decide) (by omega) (by omega) (fun hc18 => ?_) (fun hc18 => ?_)
    · refine z_iconst (v := nI 0) dX9_isHome_35 rfl ?_
      exact y_zreturn dX9_isHome_36 rfl (by first | exact Or.inl rfl | exact Or.inr rfl | assumption) ⟨by rw [b2i_f]; simp [hc18], rfl, rfl⟩
    · refine z_aload_n dX9_isHome_21 rfl ?_
      refine z_bipush (v := nI 10) dX9_isHome_22 rfl ?_
      refine z_iload_n dX9_isHome_24 rfl ?_
      refine zn_iadd dX9_isHome_25 ?_
      refine y_ialde dX9_isHome_26 ha.k (by decide) (by omega) (hG.1 b hb).2.2 ?_
      refine z_iconst (v := nI 3) dX9_isHome_27 rfl ?_
      refine zn_icmp_ne (tgt := 35) dX9_isHome_28 (by decide) (by omega) (by omega) (fun hc28 => ?_) (fun hc28 => ?_)
      · refine z_iconst (v := nI 0) dX9_isHome_35 rfl ?_
        exact y_zreturn dX9_isHome_36 rfl (by first | exact Or.inl rfl | exact Or.inr rfl | assumption) ⟨by rw [b2i_f]; simp [hc28], rfl, rfl⟩
      · refine z_iconst (v := nI 1) dX9_isHome_31 rfl ?_
        refine z_goto (tgt := 36) dX9_isHome_32 (by decide) ?_
        exact y_zreturn dX9_isHome_36 rfl (by first | exact Or.inl rfl | exact Or.inr rfl | assumption) ⟨by rw [b2i_t]; simp [hc9, hc18, hc28], rfl, rfl⟩
set_option maxRecDepth 4000 in
theorem m_homes_l {X : zX} {mu : zmu} {nu : znu} {p : PT} {s : SC} {a : Nat} (hp : PV p) (hM : PM p mu) (ha : pAt a) (hG : PG p s a mu) (hV : SVs p s) (d : Nat) : ∀ n i , i + n = pb p → zJ X M_X9_homes (d + 1) 0 0 4 [.ref 66, .ref a, .int (nI (bset (hmf p s.1) i)), .int (nI i)] [] 86 (zEE (mu) (nu)) (zlift (zex (some (.int (nI (bset (hmf p s.1) (pb p))))) mu nu)) := by
  intro n
  induction n with
  | zero =>
    intro i  hi
    have h5 := hp.2.2.2.2.2.1
    obtain rfl : i = pb p := by omega
    refine z_iload_n dX9_homes_4 rfl ?_
    refine z_aload_n dX9_homes_5 rfl ?_
    refine y_getIe dX9_homes_6 lf_X9_78 rfl rfl hM.2.2.2.1 ?_
    refine zn_icmp_ge (tgt := 37) dX9_homes_9 (by decide) (by omega) (by omega) (fun hc9 => ?_) (fun hc9 => by omega)
    refine z_iload_n dX9_homes_37 rfl ?_
    exact y_ireturn dX9_homes_38 rfl ⟨rfl, rfl, rfl⟩
  | succ n ih =>
    intro i  hi
    have h5 := hp.2.2.2.2.2.1
    refine z_iload_n dX9_homes_4 rfl ?_
    refine z_aload_n dX9_homes_5 rfl ?_
    refine y_getIe dX9_homes_6 lf_X9_78 rfl rfl hM.2.2.2.1 ?_
    refine zn_icmp_ge (tgt := 37) dX9_homes_9 (by decide) (by omega) (by omega) (fun hc9 => by omega) (fun hc9 => ?_)
    refine z_iload_n dX9_homes_12 rfl ?_
    refine z_aload_n dX9_homes_13 rfl ?_
    refine z_aload_n dX9_homes_14 rfl ?_
    refine z_iload_n dX9_homes_15 rfl ?_
    refine y_callV2x (M' := M_X9_isHome) dX9_homes_16 lm_X9_162 cv_X9_isHome rfl (Nat.le_of_ble_eq_true rfl) (Nat.le_of_ble_eq_true rfl) rfl (m_isHome hp hM ha hG hV (b := i) (by omega) _) ?_
    refine zb_if_eq (tgt := 28) dX9_homes_19 (by decide) (fun hc19 => ?_) (fun hc19 => ?_)
    · refine z_iconst (v := nI 0) dX9_homes_28 rfl ?_
      refine zn_ior dX9_homes_29 ?_
      refine z_istore2 dX9_homes_30 rfl ?_
      refine zn_iinc3 dX9_homes_31 rfl ?_
      refine z_goto (tgt := 4) dX9_homes_34 (by decide) ?_
      rw [Nat.or_zero, bset_f hc19]; exact ih (i + 1) (by omega)
    · refine z_iconst (v := nI 1) dX9_homes_22 rfl ?_
      refine z_iload_n dX9_homes_23 rfl ?_
      refine zn_ishl dX9_homes_24 (by omega) (by have : 1 * 2 ^ i ≤ 1 * 2 ^ 5 := Nat.mul_le_mul_left 1 (Nat.pow_le_pow_right (by decide) (by omega)); omega) ?_
      refine z_goto (tgt := 29) dX9_homes_25 (by decide) ?_
      refine zn_ior dX9_homes_29 ?_
      refine z_istore2 dX9_homes_30 rfl ?_
      refine zn_iinc3 dX9_homes_31 rfl ?_
      refine z_goto (tgt := 4) dX9_homes_34 (by decide) ?_
      rw [bset_t hc19]; exact ih (i + 1) (by omega)
set_option maxRecDepth 4000 in
theorem m_homes {X : zX} {mu : zmu} {nu : znu} {p : PT} {s : SC} {a : Nat} (hp : PV p) (hM : PM p mu) (ha : pAt a) (hG : PG p s a mu) (hV : SVs p s) (d : Nat) : zJ X M_X9_homes (d + 1) 0 0 0 [.ref 66, .ref a, zu, zu] [] 86 (zEE (mu) (nu)) (zlift (zex (some (.int (nI (bset (hmf p s.1) (pb p))))) mu nu)) := by
  refine z_iconst (v := nI 0) dX9_homes_0 rfl ?_
  refine z_istore2 dX9_homes_1 rfl ?_
  refine z_iconst (v := nI 0) dX9_homes_2 rfl ?_
  refine z_istore3 dX9_homes_3 rfl ?_
  exact m_homes_l hp hM ha hG hV d (pb p) 0 (by omega)
set_option maxRecDepth 4000 in
theorem m_away {X : zX} {mu : zmu} {nu : znu} {p : PT} {s : SC} {a : Nat} (hp : PV p) (hM : PM p mu) (ha : pAt a) (hG : PG p s a mu) (hV : SVs p s) (d : Nat) : zJ X M_X9_away (d + 2) 0 0 0 [.ref 66, .ref a] [] 86 (zEE (mu) (nu)) (zlift (zex (some (.int (nI (awy p s.1)))) mu nu)) := by
  have h5 := hp.2.2.2.2.2.1
  have hb5 := bcnt_le (hmf p s.1) (pb p)
  refine z_aload_n dX9_away_0 rfl ?_
  refine y_getIe dX9_away_1 lf_X9_78 rfl rfl hM.2.2.2.1 ?_
  refine z_aload_n dX9_away_4 rfl ?_
  refine z_aload_n dX9_away_5 rfl ?_
  refine y_callV1x (M' := M_X9_homes) dX9_away_6 lm_X9_166 cv_X9_homes rfl (Nat.le_of_ble_eq_true rfl) (Nat.le_of_ble_eq_true rfl) rfl (m_homes hp hM ha hG hV _) ?_
  refine y_callS1x (M' := M_X9_many) dX9_away_9 lm_X9_170 cs_X9_many (Nat.le_of_ble_eq_true rfl) (Nat.le_of_ble_eq_true rfl) rfl (m_many (Nat.lt_of_lt_of_le (bset_lt _ _) (Nat.pow_le_pow_right (n := 2) (by decide) (by omega))) _) ?_
  rw [popc_bset (by omega)]
  refine zn_isub dX9_away_12 (by omega) ?_
  exact y_ireturn dX9_away_13 rfl ⟨rfl, rfl, rfl⟩
set_option maxRecDepth 4000 in
theorem m_cellsOf_l {X : zX} {mu : zmu} {nu : znu} {p : PT} {s : SC} (hp : PV p) (hM : PM p mu) (hG : PG p s 73 mu) (hV : SVs p s) {k : Nat} (hk : k ≤ 3) (d : Nat) : ∀ n i , i + n = pw p * ph p → zJ X M_X9_cellsOf (d + 2) 0 0 4 [.ref 66, .int (nI k), .int (nI (bset (ckf p s.2 k) i)), .int (nI i)] [] 86 (zEE (mu) (nu)) (zlift (zex (some (.int (nI (bset (ckf p s.2 k) (pw p * ph p))))) mu nu)) := by
  intro n
  induction n with
  | zero =>
    intro i  hi
    have h20 := hp.n20
    obtain rfl : i = pw p * ph p := by omega
    refine z_iload_n dX9_cellsOf_4 rfl ?_
    refine z_aload_n dX9_cellsOf_5 rfl ?_
    refine y_getIe dX9_cellsOf_6 lf_X9_13 rfl rfl hM.1 ?_
    refine z_aload_n dX9_cellsOf_9 rfl ?_
    refine y_getIe dX9_cellsOf_10 lf_X9_17 rfl rfl hM.2.1 ?_
    refine zn_imul dX9_cellsOf_13 ?_
    refine zn_icmp_ge (tgt := 46) dX9_cellsOf_14 (by decide) (by omega) (by omega) (fun hc14 => ?_) (fun hc14 => by omega)
    refine z_iload_n dX9_cellsOf_46 rfl ?_
    exact y_ireturn dX9_cellsOf_47 rfl ⟨rfl, rfl, rfl⟩
  | succ n ih =>
    intro i  hi
    have h20 := hp.n20
    have hk3 := kdk_le hp (cut := s.2) (c := i) (by omega)
    refine z_iload_n dX9_cellsOf_4 rfl ?_
    refine z_aload_n dX9_cellsOf_5 rfl ?_
    refine y_getIe dX9_cellsOf_6 lf_X9_13 rfl rfl hM.1 ?_
    refine z_aload_n dX9_cellsOf_9 rfl ?_
    refine y_getIe dX9_cellsOf_10 lf_X9_17 rfl rfl hM.2.1 ?_
    refine zn_imul dX9_cellsOf_13 ?_
    refine zn_icmp_ge (tgt := 46) dX9_cellsOf_14 (by decide) (by omega) (by omega) (fun hc14 => by omega) (fun hc14 => ?_)
    refine z_iload_n dX9_cellsOf_17 rfl ?_
    refine z_aload_n dX9_cellsOf_18 rfl ?_
    refine z_aload_n dX9_cellsOf_19 rfl ?_
    refine y_getR dX9_cellsOf_20 lf_X9_35 rfl rfl ?_
    refine z_iload_n dX9_cellsOf_23 rfl ?_
    refine y_callV2x (M' := M_X9_kindOf) dX9_cellsOf_24 lm_X9_144 cv_X9_kindOf rfl (Nat.le_of_ble_eq_true rfl) (Nat.le_of_ble_eq_true rfl) rfl (m_kindOf hp hM p73 hG hV (c := i) (by omega) _) ?_
    refine z_iload_n dX9_cellsOf_27 rfl ?_
    refine zn_icmp_ne (tgt := 37) dX9_cellsOf_28 (by decide) (by omega) (by omega) (fun hc28 => ?_) (fun hc28 => ?_)
    · refine z_iconst (v := nI 0) dX9_cellsOf_37 rfl ?_
      refine zn_ior dX9_cellsOf_38 ?_
      refine z_istore2 dX9_cellsOf_39 rfl ?_
      refine zn_iinc3 dX9_cellsOf_40 rfl ?_
      refine z_goto (tgt := 4) dX9_cellsOf_43 (by decide) ?_
      rw [Nat.or_zero, bset_f (f := ckf p s.2 k) (by simpa [ckf] using hc28)]; exact ih (i + 1) (by omega)
    · refine z_iconst (v := nI 1) dX9_cellsOf_31 rfl ?_
      refine z_iload_n dX9_cellsOf_32 rfl ?_
      refine zn_ishl dX9_cellsOf_33 (by omega) (by have : 1 * 2 ^ i ≤ 1 * 2 ^ 20 := Nat.mul_le_mul_left 1 (Nat.pow_le_pow_right (by decide) (by omega)); omega) ?_
      refine z_goto (tgt := 38) dX9_cellsOf_34 (by decide) ?_
      refine zn_ior dX9_cellsOf_38 ?_
      refine z_istore2 dX9_cellsOf_39 rfl ?_
      refine zn_iinc3 dX9_cellsOf_40 rfl ?_
      refine z_goto (tgt := 4) dX9_cellsOf_43 (by decide) ?_
      rw [bset_t (f := ckf p s.2 k) (by simpa [ckf] using hc28)]; exact ih (i + 1) (by omega)
set_option maxRecDepth 4000 in
theorem m_cellsOf {X : zX} {mu : zmu} {nu : znu} {p : PT} {s : SC} (hp : PV p) (hM : PM p mu) (hG : PG p s 73 mu) (hV : SVs p s) {k : Nat} (hk : k ≤ 3) (d : Nat) : zJ X M_X9_cellsOf (d + 2) 0 0 0 [.ref 66, .int (nI k), zu, zu] [] 86 (zEE (mu) (nu)) (zlift (zex (some (.int (nI (bset (ckf p s.2 k) (pw p * ph p))))) mu nu)) := by
  refine z_iconst (v := nI 0) dX9_cellsOf_0 rfl ?_
  refine z_istore2 dX9_cellsOf_1 rfl ?_
  refine z_iconst (v := nI 0) dX9_cellsOf_2 rfl ?_
  refine z_istore3 dX9_cellsOf_3 rfl ?_
  exact m_cellsOf_l hp hM hG hV hk d (pw p * ph p) 0 (by omega)
set_option maxRecDepth 4000 in
theorem m_waysOf_l {X : zX} {mu : zmu} {nu : znu} {p : PT} {s : SC} (hp : PV p) (hM : PM p mu) (hG : PG p s 73 mu) (hV : SVs p s) {b : Nat} (hb : b < pb p) (d : Nat) : ∀ n i mu1, i + n = 4 → S81 mu mu1 → zJ X M_X9_waysOf (d + 4) 0 0 4 [.ref 66, .int (nI b), .int (nI (bset (wof p s.2 b (s.1 b)) i)), .int (nI i)] [] 86 (zEE (mu1) (nu)) (zlift (QS1 (some (.int (nI (bset (wof p s.2 b (s.1 b)) 4)))) mu nu)) := by
  intro n
  induction n with
  | zero =>
    intro i mu1 hi
    have h5 := hp.2.2.2.2.2.1
    intro hS
    obtain rfl : i = 4 := by omega
    refine z_iload_n dX9_waysOf_4 rfl ?_
    refine z_iconst (v := nI 4) dX9_waysOf_5 rfl ?_
    refine zn_icmp_ge (tgt := 38) dX9_waysOf_6 (by decide) (by omega) (by omega) (fun hc6 => ?_) (fun hc6 => by omega)
    refine z_iload_n dX9_waysOf_38 rfl ?_
    exact y_ireturn dX9_waysOf_39 rfl ⟨rfl, rfl, hS⟩
  | succ n ih =>
    intro i mu1 hi
    have h5 := hp.2.2.2.2.2.1
    intro hS
    refine z_iload_n dX9_waysOf_4 rfl ?_
    refine z_iconst (v := nI 4) dX9_waysOf_5 rfl ?_
    refine zn_icmp_ge (tgt := 38) dX9_waysOf_6 (by decide) (by omega) (by omega) (fun hc6 => by omega) (fun hc6 => ?_)
    refine z_iload_n dX9_waysOf_9 rfl ?_
    refine z_aload_n dX9_waysOf_10 rfl ?_
    refine z_aload_n dX9_waysOf_11 rfl ?_
    refine y_getR dX9_waysOf_12 lf_X9_35 rfl rfl ?_
    refine z_iload_n dX9_waysOf_15 rfl ?_
    refine z_iload_n dX9_waysOf_16 rfl ?_
    refine y_callV3 (M' := M_X9_canGo) dX9_waysOf_17 lm_X9_159 cv_X9_canGo rfl (Nat.le_of_ble_eq_true rfl) (Nat.le_of_ble_eq_true rfl) rfl (m_canGo hp (PM_S hM hS) p73 (PG_S hG p73 hS) hV hb (y := i) (by omega) _) (fun r mu2 nu2 hq => ?_)
    obtain ⟨rfl, rfl, hS2, -⟩ := hq
    refine zb_if_eq (tgt := 29) dX9_waysOf_20 (by decide) (fun hc20 => ?_) (fun hc20 => ?_)
    · refine z_iconst (v := nI 0) dX9_waysOf_29 rfl ?_
      refine zn_ior dX9_waysOf_30 ?_
      refine z_istore2 dX9_waysOf_31 rfl ?_
      refine zn_iinc3 dX9_waysOf_32 rfl ?_
      refine z_goto (tgt := 4) dX9_waysOf_35 (by decide) ?_
      rw [Nat.or_zero, bset_f (f := wof p s.2 b (s.1 b)) hc20]; exact ih (i + 1) mu2 (by omega) (S81_tr hS hS2)
    · refine z_iconst (v := nI 1) dX9_waysOf_23 rfl ?_
      refine z_iload_n dX9_waysOf_24 rfl ?_
      refine zn_ishl dX9_waysOf_25 (by omega) (by have : 1 * 2 ^ i ≤ 1 * 2 ^ 4 := Nat.mul_le_mul_left 1 (Nat.pow_le_pow_right (by decide) (by omega)); omega) ?_
      refine z_goto (tgt := 30) dX9_waysOf_26 (by decide) ?_
      refine zn_ior dX9_waysOf_30 ?_
      refine z_istore2 dX9_waysOf_31 rfl ?_
      refine zn_iinc3 dX9_waysOf_32 rfl ?_
      refine z_goto (tgt := 4) dX9_waysOf_35 (by decide) ?_
      rw [bset_t (f := wof p s.2 b (s.1 b)) hc20]; exact ih (i + 1) mu2 (by omega) (S81_tr hS hS2)
set_option maxRecDepth 4000 in
theorem m_waysOf {X : zX} {mu : zmu} {nu : znu} {p : PT} {s : SC} (hp : PV p) (hM : PM p mu) (hG : PG p s 73 mu) (hV : SVs p s) {b : Nat} (hb : b < pb p) (d : Nat) : zJ X M_X9_waysOf (d + 4) 0 0 0 [.ref 66, .int (nI b), zu, zu] [] 86 (zEE (mu) (nu)) (zlift (QS1 (some (.int (nI (bset (wof p s.2 b (s.1 b)) 4)))) mu nu)) := by
  refine z_iconst (v := nI 0) dX9_waysOf_0 rfl ?_
  refine z_istore2 dX9_waysOf_1 rfl ?_
  refine z_iconst (v := nI 0) dX9_waysOf_2 rfl ?_
  refine z_istore3 dX9_waysOf_3 rfl ?_
  exact m_waysOf_l hp hM hG hV hb d 4 0 mu (by omega) S81_rf
