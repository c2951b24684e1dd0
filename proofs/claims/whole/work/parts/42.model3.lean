def hrK (w h dd c q : Nat) : Nat → Bool
  | 0 => c == q
  | i + 1 => hrK w h dd c q i || (nbc w h dd c i == q)
theorem hrK_4 (w h dd c q : Nat) : hrK w h dd c q 4 = hear w h dd c q := by simp [hrK, hear, Bool.or_assoc]
theorem hrK_s (w h dd c q i : Nat) : hrK w h dd c q (i + 1) = (hrK w h dd c q i || (nbc w h dd c i == q)) := rfl
set_option maxRecDepth 4000 in
theorem m_hears_l {X : zX} {mu : zmu} {nu : znu} {p : PT} {s : SC} {a : Nat} (hp : PV p) (hM : PM p mu) (ha : pAt a) (hG : PG p s a mu) (hV : SVs p s) {b q : Nat} (hb : b < pb p) (hq : q < pw p * ph p) (d : Nat) : ∀ n i mu1, i + n = 4 → S81 mu mu1 → zJ X M_X9_hears (d + 2) 0 0 17 [.ref 66, .ref a, .int (nI b), .int (nI q), .int (b2i (hrK (pw p) (ph p) (pdx p (pX p b)) (s.1 b % 20) q i)), .int (nI i)] [] 86 (zEE (mu1) (nu)) (zlift (QS1 (some (.int (b2i (hrb p s.1 q b)))) mu nu)) := by
  intro n
  induction n with
  | zero =>
    intro i mu1 hi
    have h5 := hp.2.2.2.2.2.1
    have h20 := hp.n20
    intro hS
    obtain rfl : i = 4 := by omega
    refine z_iload dX9_hears_17 rfl ?_
    refine z_iconst (v := nI 4) dX9_hears_19 rfl ?_
    refine zn_icmp_ge (tgt := 69) dX9_hears_20 (by decide) (by omega) (by omega) (fun hc20 => ?_) (fun hc20 => by omega)
    refine z_iload dX9_hears_69 rfl ?_
    exact y_zreturn dX9_hears_71 rfl (b2i_01 _) ⟨by rw [hrK_4]; rfl, rfl, hS⟩
  | succ n ih =>
    intro i mu1 hi
    have h5 := hp.2.2.2.2.2.1
    have h20 := hp.n20
    intro hS
    have hPb := hV.1 b hb
    have hx3 := (hp.2.2.2.2.2.2.2 b hb).2
    have hn := nbc_lt hp (pdx_lt hp (pX p b)) hPb.2 (y := i) (by omega)
    refine z_iload dX9_hears_17 rfl ?_
    refine z_iconst (v := nI 4) dX9_hears_19 rfl ?_
    refine zn_icmp_ge (tgt := 69) dX9_hears_20 (by decide) (by omega) (by omega) (fun hc20 => by omega) (fun hc20 => ?_)
    refine z_iload dX9_hears_23 rfl ?_
    refine zb_if_ne (tgt := 56) dX9_hears_25 (by decide) (fun hc25 => ?_) (fun hc25 => ?_)
    · refine z_iconst (v := nI 1) dX9_hears_56 rfl ?_
      refine z_goto (tgt := 61) dX9_hears_57 (by decide) ?_
      refine z_istore4 dX9_hears_61 rfl ?_
      refine zn_iinc5 dX9_hears_63 rfl ?_
      refine z_goto (tgt := 17) dX9_hears_66 (by decide) ?_
      have e : hrK (pw p) (ph p) (pdx p (pX p b)) (s.1 b % 20) q (i + 1) = true := by rw [hrK_s, hc25]; rfl
      have k := ih (i + 1) mu1 (by omega) hS
      rw [e] at k; exact k
    · refine z_aload_n dX9_hears_28 rfl ?_
      refine z_aload_n dX9_hears_29 rfl ?_
      refine z_iload_n dX9_hears_30 rfl ?_
      refine y_ialde dX9_hears_31 ha.k (by decide) (by omega) ((congrFun (hS a (by have := ha.b; omega)) b).trans (hG.1 b hb).1) ?_
      refine z_iload dX9_hears_32 rfl ?_
      refine z_aload_n dX9_hears_34 rfl ?_
      refine y_getR dX9_hears_35 lf_X9_26 rfl rfl ?_
      refine z_iload_n dX9_hears_38 rfl ?_
      refine y_ialde dX9_hears_39 rfl (by decide) (by omega) ((congrFun (hS 70 (by decide)) b).trans (hM.2.2.2.2.2 b hb).2) ?_
      refine z_iconst (v := nI 3) dX9_hears_40 rfl ?_
      refine zn_icmp_ne (tgt := 48) dX9_hears_41 (by decide) (by omega) (by omega) (fun hc41 => ?_) (fun hc41 => ?_)
      · have eX : b2i (pX p b == 3) = nI 0 := b2i_f (by simp [hc41])
        refine z_iconst (v := nI 0) dX9_hears_48 rfl ?_
        rw [← eX]
        refine y_callV3 (M' := M_X9_cellBeside) dX9_hears_49 lm_X9_187 cv_X9_cellBeside rfl (Nat.le_of_ble_eq_true rfl) (Nat.le_of_ble_eq_true rfl) rfl (m_cellBeside hp (PM_S hM hS) hPb.2 (y := i) (by omega) (pX p b == 3) _) (fun r mu2 nu2 hq2 => ?_)
        obtain ⟨rfl, rfl, hS2⟩ := hq2
        rw [pdx_b]
        refine z_iload_n dX9_hears_52 rfl ?_
        refine zn_icmp_ne (tgt := 60) dX9_hears_53 (by decide) (by omega) (by omega) (fun hc53 => ?_) (fun hc53 => ?_)
        · refine z_iconst (v := nI 0) dX9_hears_60 rfl ?_
          refine z_istore4 dX9_hears_61 rfl ?_
          refine zn_iinc5 dX9_hears_63 rfl ?_
          refine z_goto (tgt := 17) dX9_hears_66 (by decide) ?_
          have e : hrK (pw p) (ph p) (pdx p (pX p b)) (s.1 b % 20) q (i + 1) = false := by rw [hrK_s, hc25]; simp [hc53]
          have k := ih (i + 1) mu2 (by omega) (S81_tr hS hS2)
          rw [e] at k; exact k
        · refine z_iconst (v := nI 1) dX9_hears_56 rfl ?_
          refine z_goto (tgt := 61) dX9_hears_57 (by decide) ?_
          refine z_istore4 dX9_hears_61 rfl ?_
          refine zn_iinc5 dX9_hears_63 rfl ?_
          refine z_goto (tgt := 17) dX9_hears_66 (by decide) ?_
          have e : hrK (pw p) (ph p) (pdx p (pX p b)) (s.1 b % 20) q (i + 1) = true := by rw [hrK_s]; simp [hc53]
          have k := ih (i + 1) mu2 (by omega) (S81_tr hS hS2)
          rw [e] at k; exact k
      · have eX : b2i (pX p b == 3) = nI 1 := b2i_t (by simp [hc41])
        refine z_iconst (v := nI 1) dX9_hears_44 rfl ?_
        refine z_goto (tgt := 49) dX9_hears_45 (by decide) ?_
        rw [← eX]
        refine y_callV3 (M' := M_X9_cellBeside) dX9_hears_49 lm_X9_187 cv_X9_cellBeside rfl (Nat.le_of_ble_eq_true rfl) (Nat.le_of_ble_eq_true rfl) rfl (m_cellBeside hp (PM_S hM hS) hPb.2 (y := i) (by omega) (pX p b == 3) _) (fun r mu2 nu2 hq2 => ?_)
        obtain ⟨rfl, rfl, hS2⟩ := hq2
        rw [pdx_b]
        refine z_iload_n dX9_hears_52 rfl ?_
        refine zn_icmp_ne (tgt := 60) dX9_hears_53 (by decide) (by omega) (by omega) (fun hc53 => ?_) (fun hc53 => ?_)
        · refine z_iconst (v := nI 0) dX9_hears_60 rfl ?_
          refine z_istore4 dX9_hears_61 rfl ?_
          refine zn_iinc5 dX9_hears_63 rfl ?_
          refine z_goto (tgt := 17) dX9_hears_66 (by decide) ?_
          have e : hrK (pw p) (ph p) (pdx p (pX p b)) (s.1 b % 20) q (i + 1) = false := by rw [hrK_s, hc25]; simp [hc53]
          have k := ih (i + 1) mu2 (by omega) (S81_tr hS hS2)
          rw [e] at k; exact k
        · refine z_iconst (v := nI 1) dX9_hears_56 rfl ?_
          refine z_goto (tgt := 61) dX9_hears_57 (by decide) ?_
          refine z_istore4 dX9_hears_61 rfl ?_
          refine zn_iinc5 dX9_hears_63 rfl ?_
          refine z_goto (tgt := 17) dX9_hears_66 (by decide) ?_
          have e : hrK (pw p) (ph p) (pdx p (pX p b)) (s.1 b % 20) q (i + 1) = true := by rw [hrK_s]; simp [hc53]
          have k := ih (i + 1) mu2 (by omega) (S81_tr hS hS2)
          rw [e] at k; exact k
set_option maxRecDepth 4000 in
theorem m_hears {X : zX} {mu : zmu} {nu : znu} {p : PT} {s : SC} {a : Nat} (hp : PV p) (hM : PM p mu) (ha : pAt a) (hG : PG p s a mu) (hV : SVs p s) {b q : Nat} (hb : b < pb p) (hq : q < pw p * ph p) (d : Nat) : zJ X M_X9_hears (d + 2) 0 0 0 [.ref 66, .ref a, .int (nI b), .int (nI q), zu, zu] [] 86 (zEE (mu) (nu)) (zlift (QS1 (some (.int (b2i (hrb p s.1 q b)))) mu nu)) := by
  have h5 := hp.2.2.2.2.2.1
  have h20 := hp.n20
  have hPb := hV.1 b hb
  refine z_aload_n dX9_hears_0 rfl ?_
  refine z_iload_n dX9_hears_1 rfl ?_
  refine y_ialde dX9_hears_2 ha.k (by decide) (by omega) (hG.1 b hb).1 ?_
  refine z_iload_n dX9_hears_3 rfl ?_
  refine zn_icmp_ne (tgt := 11) dX9_hears_4 (by decide) (by omega) (by omega) (fun hc4 => ?_) (fun hc4 => ?_)
  · refine z_iconst (v := nI 0) dX9_hears_11 rfl ?_
    refine z_istore4 dX9_hears_12 rfl ?_
    refine z_iconst (v := nI 0) dX9_hears_14 rfl ?_
    refine z_istore5 dX9_hears_15 rfl ?_
    have e : hrK (pw p) (ph p) (pdx p (pX p b)) (s.1 b % 20) q 0 = false := by simp [hrK, hc4]
    have k := m_hears_l (X := X) (nu := nu) hp hM ha hG hV hb hq d 4 0 mu (by omega) S81_rf
    rw [e] at k; exact k
  · refine z_iconst (v := nI 1) dX9_hears_7 rfl ?_
    refine z_goto (tgt := 12) dX9_hears_8 (by decide) ?_
    refine z_istore4 dX9_hears_12 rfl ?_
    refine z_iconst (v := nI 0) dX9_hears_14 rfl ?_
    refine z_istore5 dX9_hears_15 rfl ?_
    have e : hrK (pw p) (ph p) (pdx p (pX p b)) (s.1 b % 20) q 0 = true := by simp [hrK, hc4]
    have k := m_hears_l (X := X) (nu := nu) hp hM ha hG hV hb hq d 4 0 mu (by omega) S81_rf
    rw [e] at k; exact k
def brI (p : PT) (s : SC) (q i : Nat) : SC := (fun b => if b < i ∧ hrb p s.1 q b = true then 480 + pH p b else s.1 b, s.2)
theorem PG_fe {p : PT} {s s' : SC} {a : Nat} {mu : zmu} (h : PG p s a mu) (e : ∀ b, b < pb p → s'.1 b = s.1 b) (e2 : s'.2 = s.2) : PG p s' a mu := ⟨fun b hb => by rw [e b hb]; exact h.1 b hb, by rw [e2]; exact h.2⟩
theorem brI_V {p : PT} (hp : PV p) {s : SC} (hV : SVs p s) (q i : Nat) : SVs p (brI p s q i) := brV hp hV (fun b => b < i ∧ hrb p s.1 q b = true)
set_option maxRecDepth 4000 in
theorem m_goCall_l {X : zX} {mu : zmu} {nu : znu} {p : PT} {s : SC} {a : Nat} (hp : PV p) (hM : PM p mu) (ha : pAt a) (hG : PG p s a mu) (hV : SVs p s) {q : Nat} (hq : q < pw p * ph p) (d : Nat) : ∀ n i mu1, i + n = pb p → PG p (brI p s q i) a mu1 → S8a a mu mu1 → zJ X M_X9_goCall (d + 3) 0 0 2 [.ref 66, .ref a, .int (nI q), .int (nI i)] [] 86 (zEE (mu1) (nu)) (zlift (Qp p (brS' p s q) a none mu nu)) := by
  intro n
  induction n with
  | zero =>
    intro i mu1 hi
    have h5 := hp.2.2.2.2.2.1
    have h20 := hp.n20
    intro hG1 hS
    obtain rfl : i = pb p := by omega
    refine z_iload_n dX9_goCall_2 rfl ?_
    refine z_aload_n dX9_goCall_3 rfl ?_
    refine y_getIe dX9_goCall_4 lf_X9_78 rfl rfl (PM_8 hM ha hS).2.2.2.1 ?_
    refine zn_icmp_ge (tgt := 48) dX9_goCall_7 (by decide) (by omega) (by omega) (fun hc7 => ?_) (fun hc7 => by omega)
    exact y_return dX9_goCall_48 rfl ⟨rfl, rfl, PG_fe hG1 (fun b hb => by show brg p s.1 q b = if b < pb p ∧ hrb p s.1 q b = true then 480 + pH p b else s.1 b; unfold brg; simp [hb]) rfl, hS⟩
  | succ n ih =>
    intro i mu1 hi
    have h5 := hp.2.2.2.2.2.1
    have h20 := hp.n20
    intro hG1 hS
    have hM1 := PM_8 hM ha hS
    have hV1 := brI_V hp hV q i
    have eP : (brI p s q i).1 i = s.1 i := by simp [brI]
    have eh : hrb p (brI p s q i).1 q i = hrb p s.1 q i := by unfold hrb; rw [eP]
    have hH := (hp.2.2.2.2.2.2.2 i (by omega)).1
    refine z_iload_n dX9_goCall_2 rfl ?_
    refine z_aload_n dX9_goCall_3 rfl ?_
    refine y_getIe dX9_goCall_4 lf_X9_78 rfl rfl (PM_8 hM ha hS).2.2.2.1 ?_
    refine zn_icmp_ge (tgt := 48) dX9_goCall_7 (by decide) (by omega) (by omega) (fun hc7 => by omega) (fun hc7 => ?_)
    refine z_aload_n dX9_goCall_10 rfl ?_
    refine z_aload_n dX9_goCall_11 rfl ?_
    refine z_iload_n dX9_goCall_12 rfl ?_
    refine z_iload_n dX9_goCall_13 rfl ?_
    refine y_callV3 (M' := M_X9_hears) dX9_goCall_14 lm_X9_203 cv_X9_hears rfl (Nat.le_of_ble_eq_true rfl) (Nat.le_of_ble_eq_true rfl) rfl (m_hears hp hM1 ha hG1 hV1 (b := i) (by omega) hq _) (fun r mu2 nu2 hq2 => ?_)
    obtain ⟨rfl, rfl, hS2⟩ := hq2
    rw [eh]
    have hG2 := PG_S hG1 ha hS2
    refine zb_if_eq (tgt := 42) dX9_goCall_17 (by decide) (fun hc17 => ?_) (fun hc17 => ?_)
    · refine zn_iinc3 dX9_goCall_42 rfl ?_
      refine z_goto (tgt := 2) dX9_goCall_45 (by decide) ?_
      refine ih (i + 1) mu2 (by omega) (PG_fe hG2 (fun b hb => ?_) rfl) (S8a_tr hS (S8a_S hS2))
      show (if b < i + 1 ∧ hrb p s.1 q b = true then 480 + pH p b else s.1 b) = if b < i ∧ hrb p s.1 q b = true then 480 + pH p b else s.1 b
      by_cases hbi : b = i
      · subst hbi; simp [hc17]
      · by_cases hlt : b < i
        · simp [hlt, show b < i + 1 by omega]
        · simp [hlt, show ¬ b < i + 1 by omega]
    · refine z_aload_n dX9_goCall_20 rfl ?_
      refine z_iload_n dX9_goCall_21 rfl ?_
      refine z_aload_n dX9_goCall_22 rfl ?_
      refine y_getR dX9_goCall_23 lf_X9_23 rfl rfl ?_
      refine z_iload_n dX9_goCall_26 rfl ?_
      refine y_ialde dX9_goCall_27 rfl (by decide) (by omega) ((congrFun (hS2 69 (by decide)) i).trans (hM1.2.2.2.2.2 i (by omega)).1) ?_
      refine y_iast dX9_goCall_28 ha.k (by decide) (by omega) ?_
      refine z_aload_n dX9_goCall_29 rfl ?_
      refine z_iconst (v := nI 5) dX9_goCall_30 rfl ?_
      refine z_iload_n dX9_goCall_31 rfl ?_
      refine zn_iadd dX9_goCall_32 ?_
      refine z_iconst (v := nI 3) dX9_goCall_33 rfl ?_
      refine y_iast dX9_goCall_34 ha.k (by decide) (by omega) ?_
      refine z_aload_n dX9_goCall_35 rfl ?_
      refine z_bipush (v := nI 10) dX9_goCall_36 rfl ?_
      refine z_iload_n dX9_goCall_38 rfl ?_
      refine zn_iadd dX9_goCall_39 ?_
      refine z_iconst (v := nI 3) dX9_goCall_40 rfl ?_
      refine y_iast dX9_goCall_41 ha.k (by decide) (by omega) ?_
      refine zn_iinc3 dX9_goCall_42 rfl ?_
      refine z_goto (tgt := 2) dX9_goCall_45 (by decide) ?_
      refine ih (i + 1) _ (by omega) (PG_fe (PG_w hp hG2 (b := i) (q := 480 + pH p i) (by omega) (v0 := nI (pH p i)) (v1 := nI 3) (v2 := nI 3) (nI_e (by omega)) (nI_e (by omega)) (nI_e (by omega))) (fun b hb => ?_) rfl) (S8a_tr hS (S8a_tr (S8a_S hS2) pgw_o))
      show (if b < i + 1 ∧ hrb p s.1 q b = true then 480 + pH p b else s.1 b) = if b = i then 480 + pH p i else if b < i ∧ hrb p s.1 q b = true then 480 + pH p b else s.1 b
      by_cases hbi : b = i
      · subst hbi; simp [hc17]
      · by_cases hlt : b < i
        · simp [hlt, hbi, show b < i + 1 by omega]
        · simp [hlt, hbi, show ¬ b < i + 1 by omega]
set_option maxRecDepth 4000 in
theorem m_goCall {X : zX} {mu : zmu} {nu : znu} {p : PT} {s : SC} {a : Nat} (hp : PV p) (hM : PM p mu) (ha : pAt a) (hG : PG p s a mu) (hV : SVs p s) {q : Nat} (hq : q < pw p * ph p) (d : Nat) : zJ X M_X9_goCall (d + 3) 0 0 0 [.ref 66, .ref a, .int (nI q), zu] [] 86 (zEE (mu) (nu)) (zlift (Qp p (brS' p s q) a none mu nu)) := by
  refine z_iconst (v := nI 0) dX9_goCall_0 rfl ?_
  refine z_istore3 dX9_goCall_1 rfl ?_
  exact m_goCall_l hp hM ha hG hV hq d (pb p) 0 mu (by omega) (PG_fe hG (fun b hb => by simp [brI]) rfl) S8a_rf
def cpo (o : Nat) (f g : Nat → Int32) (i j : Nat) : Int32 := if o ≤ j ∧ j < o + i then f (j - o) else g j
theorem cpo_s {mu : zmu} {a o i : Nat} {f g : Nat → Int32} : u2 (uR mu a (cpo o f g i)) a (o + i) (f i) = uR mu a (cpo o f g (i + 1)) := by
  funext x j
  unfold u2 uR cpo
  by_cases hx : x = a
  · rw [if_pos hx, if_pos hx, if_pos hx]
    by_cases hj : j = o + i
    · subst hj; simp
    · rw [if_neg hj]
      by_cases h1 : o ≤ j ∧ j < o + i
      · rw [if_pos h1, if_pos (by omega)]
      · rw [if_neg h1, if_neg (by omega)]
  · rw [if_neg hx, if_neg hx, if_neg hx]
theorem cpo_0 {mu : zmu} {a o : Nat} {f : Nat → Int32} : uR mu a (cpo o f (mu a) 0) = mu := by
  funext x j
  unfold uR cpo
  by_cases hx : x = a
  · rw [if_pos hx, hx, if_neg (by omega)]
  · rw [if_neg hx]
theorem cpo_at {o i k : Nat} {f g : Nat → Int32} (h : k < i) : cpo o f g i (o + k) = f k := by
  unfold cpo; rw [if_pos (by omega), Nat.add_sub_cancel_left]
theorem cpo_off {o i j : Nat} {f g : Nat → Int32} (h : j < o ∨ o + i ≤ j) : cpo o f g i j = g j := by unfold cpo; rw [if_neg (by omega)]
/-- a page within a longer row -/
def PGo (p : PT) (s : SC) (a o : Nat) (mu : zmu) : Prop := (∀ b, b < pb p → mu a (o + b) = nI (s.1 b % 20) ∧ mu a (o + (5 + b)) = nI (s.1 b / 20 % 7) ∧ mu a (o + (10 + b)) = nI (s.1 b / 140)) ∧ mu a (o + 15) = nI s.2
theorem PGo_f {p : PT} (hp : PV p) {s : SC} {a o a' o' : Nat} {mu mu1 : zmu} (h : PGo p s a o mu) (e : ∀ k, k < 16 → mu1 a' (o' + k) = mu a (o + k)) : PGo p s a' o' mu1 := by
  have h5 := hp.2.2.2.2.2.1
  refine ⟨fun b hb => ?_, by rw [e 15 (by decide)]; exact h.2⟩
  rw [e b (by omega), e (5 + b) (by omega), e (10 + b) (by omega)]
  exact h.1 b hb
theorem PGo_0 {p : PT} {s : SC} {a : Nat} {mu : zmu} : PGo p s a 0 mu ↔ PG p s a mu := by unfold PGo PG; simp only [Nat.zero_add]
theorem PG_to {p : PT} (hp : PV p) {s : SC} {a a' o' : Nat} {mu mu1 : zmu} (h : PG p s a mu) (e : ∀ k, k < 16 → mu1 a' (o' + k) = mu a k) : PGo p s a' o' mu1 := PGo_f hp (PGo_0.mpr h) (fun k hk => by rw [Nat.zero_add]; exact e k hk)
theorem PG_from {p : PT} (hp : PV p) {s : SC} {a o a' : Nat} {mu mu1 : zmu} (h : PGo p s a o mu) (e : ∀ k, k < 16 → mu1 a' k = mu a (o + k)) : PG p s a' mu1 := PGo_0.mp (PGo_f hp h (fun k hk => by rw [Nat.zero_add]; exact e k hk))
/-- acts, slots, sight and text, as the reference has them -/
def BK (p : PT) (a : Nat × (Nat → SC)) (mu : zmu) : Prop := mu 66 20 = nI a.1 ∧ ∀ i, i < a.1 → PGo p (a.2 i) 75 (16 * i) mu
def KM (p : PT) (k : Nat → Option SC) (mu : zmu) : Prop := ∀ i, i < 2 → match k i with
  | none => mu 77 i = 0
  | some s => mu 77 i = 1 ∧ PGo p s 76 (16 * i) mu
def SM (g : SG) (mu : zmu) : Prop := mu 66 23 = nI g.1 ∧ ∀ i, i < g.1 → mu 78 i = sI (g.2.1 i) ∧ mu 79 i = sI (g.2.2.1 i) ∧ mu 80 i = nI (g.2.2.2 i)
def TM (t : Nat × (Nat → Nat)) (mu : zmu) : Prop := mu 66 2 = nI t.1 ∧ ∀ i, i < t.1 → mu 67 i = nI (t.2 i)
def MR (A : AS) (mu : zmu) (nu : znu) : Prop := PM (aP A) mu ∧ PG (aP A) (aN A) 73 mu ∧ BK (aP A) (aA A) mu ∧ KM (aP A) (aK A) mu ∧ SM (aS A) mu ∧ TM (aT A) mu ∧ nu 66 = aD A
def FrM (mu : zmu) (nu : znu) (mu1 : zmu) (nu1 : znu) : Prop := (∀ a, a < 66 → mu1 a = mu a) ∧ nu1 0 = nu 0
def live (a j : Nat) : Prop := a < 66 ∨ (a = 66 ∧ (j = 2 ∨ j = 4 ∨ j = 5 ∨ j = 6 ∨ j = 8 ∨ j = 20 ∨ j = 23)) ∨ (67 ≤ a ∧ a ≤ 70) ∨ a = 73 ∨ (75 ≤ a ∧ a ≤ 80)
def Sm (mu mu1 : zmu) : Prop := ∀ a j, live a j → mu1 a j = mu a j
theorem Sm_rf {mu : zmu} : Sm mu mu := fun _ _ _ => rfl
theorem Sm_tr {m1 m2 m3 : zmu} (h : Sm m1 m2) (g : Sm m2 m3) : Sm m1 m3 := fun a j hl => (g a j hl).trans (h a j hl)
theorem Sm_u {mu : zmu} {a k : Nat} {v : Int32} (h : ¬ live a k) : Sm mu (u2 mu a k v) := fun b j hl => by
  unfold u2
  by_cases hb : b = a
  · by_cases hj : j = k
    · subst hb hj; exact absurd hl h
    · rw [if_pos hb, if_neg hj]
  · rw [if_neg hb]
theorem Sm_R {mu : zmu} {a : Nat} {f : Nat → Int32} (h : ∀ k, ¬ live a k) : Sm mu (uR mu a f) := fun b j hl => by
  unfold uR
  by_cases hb : b = a
  · subst hb; exact absurd hl (h j)
  · rw [if_neg hb]
theorem Sm_S {mu mu1 : zmu} (h : S81 mu mu1) : Sm mu mu1 := fun a j hl => congrFun (h a (by unfold live at hl; omega)) j
theorem Sm_74 {mu mu1 : zmu} (h : S8a 74 mu mu1) : Sm mu mu1 := fun a j hl => congrFun (h a (by unfold live at hl; omega) (by unfold live at hl; omega)) j
theorem Sm_row {mu mu1 : zmu} (h : Sm mu mu1) {a : Nat} (ha : a < 66 ∨ (67 ≤ a ∧ a ≤ 70) ∨ a = 73 ∨ (75 ≤ a ∧ a ≤ 80)) : mu1 a = mu a := by funext j; exact h a j (by unfold live; omega)
theorem PM_m {p : PT} {mu mu1 : zmu} (h : PM p mu) (e : Sm mu mu1) : PM p mu1 := by
  unfold PM at *
  rw [e 66 4 (by unfold live; omega), e 66 5 (by unfold live; omega), e 66 6 (by unfold live; omega), e 66 8 (by unfold live; omega), Sm_row e (by omega : 68 < 66 ∨ (67 ≤ 68 ∧ 68 ≤ 70) ∨ 68 = 73 ∨ (75 ≤ 68 ∧ 68 ≤ 80)), Sm_row e (by omega : 69 < 66 ∨ (67 ≤ 69 ∧ 69 ≤ 70) ∨ 69 = 73 ∨ (75 ≤ 69 ∧ 69 ≤ 80)), Sm_row e (by omega : 70 < 66 ∨ (67 ≤ 70 ∧ 70 ≤ 70) ∨ 70 = 73 ∨ (75 ≤ 70 ∧ 70 ≤ 80))]
  exact h
theorem PGo_e {p : PT} {s : SC} {a o : Nat} {mu mu1 : zmu} (h : PGo p s a o mu) (e : mu1 a = mu a) : PGo p s a o mu1 := by unfold PGo at *; rw [e]; exact h
theorem BK_e {p : PT} {a : Nat × (Nat → SC)} {mu mu1 : zmu} (h : BK p a mu) (e1 : mu1 66 20 = mu 66 20) (e2 : mu1 75 = mu 75) : BK p a mu1 := ⟨by rw [e1]; exact h.1, fun i hi => PGo_e (h.2 i hi) e2⟩
theorem KM_e {p : PT} {k : Nat → Option SC} {mu mu1 : zmu} (h : KM p k mu) (e1 : mu1 76 = mu 76) (e2 : mu1 77 = mu 77) : KM p k mu1 := by
  intro i hi
  have g := h i hi
  cases hk : k i with
  | none => rw [hk] at g; simp only at g ⊢; rw [e2]; exact g
  | some s => rw [hk] at g; simp only at g ⊢; exact ⟨by rw [e2]; exact g.1, PGo_e g.2 e1⟩
theorem SM_e {g : SG} {mu mu1 : zmu} (h : SM g mu) (e0 : mu1 66 23 = mu 66 23) (e1 : mu1 78 = mu 78) (e2 : mu1 79 = mu 79) (e3 : mu1 80 = mu 80) : SM g mu1 := by unfold SM at *; rw [e0, e1, e2, e3]; exact h
theorem TM_e {t : Nat × (Nat → Nat)} {mu mu1 : zmu} (h : TM t mu) (e0 : mu1 66 2 = mu 66 2) (e1 : mu1 67 = mu 67) : TM t mu1 := by unfold TM at *; rw [e0, e1]; exact h
theorem MR_m {A : AS} {mu mu1 : zmu} {nu nu1 : znu} (h : MR A mu nu) (e : Sm mu mu1) (en : nu1 66 = nu 66) : MR A mu1 nu1 := by
  obtain ⟨h1, h2, h3, h4, h5, h6, h7⟩ := h
  exact ⟨PM_m h1 e, PG_e h2 (Sm_row e (by omega)), BK_e h3 (e 66 20 (by unfold live; omega)) (Sm_row e (by omega)), KM_e h4 (Sm_row e (by omega)) (Sm_row e (by omega)), SM_e h5 (e 66 23 (by unfold live; omega)) (Sm_row e (by omega)) (Sm_row e (by omega)) (Sm_row e (by omega)), TM_e h6 (e 66 2 (by unfold live; omega)) (Sm_row e (by omega)), en.trans h7⟩
theorem FrM_rf {mu : zmu} {nu : znu} : FrM mu nu mu nu := ⟨fun _ _ => rfl, rfl⟩
theorem FrM_tr {m1 m2 m3 : zmu} {n1 n2 n3 : znu} (h : FrM m1 n1 m2 n2) (g : FrM m2 n2 m3 n3) : FrM m1 n1 m3 n3 := ⟨fun a ha => (g.1 a ha).trans (h.1 a ha), g.2.trans h.2⟩
theorem FrM_m {mu mu1 : zmu} {nu : znu} (e : Sm mu mu1) : FrM mu nu mu1 nu := ⟨fun a ha => Sm_row e (Or.inl ha), rfl⟩
/-- what a call of the reference comes to -/
def QM (f : Int32 × AS) (mu : zmu) (nu : znu) : zq := fun r mu1 nu1 => r = some (.int f.1) ∧ MR f.2 mu1 nu1 ∧ FrM mu nu mu1 nu1
theorem QM_of {f : Int32 × AS} {A' : AS} {v : Int32} {mu mu1 : zmu} {nu nu1 : znu} (e : f = (v, A')) (h : MR A' mu1 nu1) (g : FrM mu nu mu1 nu1) : QM f mu nu (some (.int v)) mu1 nu1 := by subst e; exact ⟨rfl, h, g⟩
theorem QM_m {f : Int32 × AS} {A : AS} {v : Int32} {mu mu1 : zmu} {nu : znu} (h : MR A mu nu) (s : Sm mu mu1) (e : f = (v, A)) : QM f mu nu (some (.int v)) mu1 nu := QM_of e (MR_m h s rfl) (FrM_m s)
theorem QM_rf {f : Int32 × AS} {A : AS} {v : Int32} {mu : zmu} {nu : znu} (h : MR A mu nu) (e : f = (v, A)) : QM f mu nu (some (.int v)) mu nu := QM_m h Sm_rf e
theorem Sm_th {mu : zmu} {v : Int32} : Sm mu (u2 mu 66 0 v) := Sm_u (by unfold live; omega)
theorem QM_th {f : Int32 × AS} {mu : zmu} {nu : znu} {v : Int32} : ∀ r mu1 nu1, QM f (u2 mu 66 0 v) nu r mu1 nu1 → QM f mu nu r mu1 nu1 := fun _ _ _ h => ⟨h.1, h.2.1, FrM_tr (FrM_m Sm_th) h.2.2⟩
set_option maxRecDepth 4000 in
theorem m_begin_l {X : zX} {mu : zmu} {nu : znu} (d : Nat) : ∀ n i , i + n = 16 → zJ X M_X9_begin d 0 0 2 [.ref 66, .int (nI i)] [] 86 (zEE (uR mu 74 (cpo 0 (mu 73) (mu 74) i)) (nu)) (zlift (zex none (uR mu 74 (cpo 0 (mu 73) (mu 74) 16)) nu)) := by
  intro n
  induction n with
  | zero =>
    intro i  hi
    obtain rfl : i = 16 := by omega
    refine z_iload_n dX9_begin_2 rfl ?_
    refine z_bipush (v := nI 16) dX9_begin_3 rfl ?_
    refine zn_icmp_ge (tgt := 26) dX9_begin_5 (by decide) (by omega) (by omega) (fun hc5 => ?_) (fun hc5 => by omega)
    exact y_return dX9_begin_26 rfl ⟨rfl, rfl, rfl⟩
  | succ n ih =>
    intro i  hi
    refine z_iload_n dX9_begin_2 rfl ?_
    refine z_bipush (v := nI 16) dX9_begin_3 rfl ?_
    refine zn_icmp_ge (tgt := 26) dX9_begin_5 (by decide) (by omega) (by omega) (fun hc5 => by omega) (fun hc5 => ?_)
    refine z_aload_n dX9_begin_8 rfl ?_
    refine y_getR dX9_begin_9 lf_X9_38 rfl rfl ?_
    refine z_iload_n dX9_begin_12 rfl ?_
    refine z_aload_n dX9_begin_13 rfl ?_
    refine y_getR dX9_begin_14 lf_X9_35 rfl rfl ?_
    refine z_iload_n dX9_begin_17 rfl ?_
    refine y_ialde dX9_begin_18 rfl (by decide) (by omega) (congrFun (uR_a (by decide)) i) ?_
    refine y_iast dX9_begin_19 rfl (by decide) (by omega) ?_
    have ec := cpo_s (mu := mu) (a := 74) (o := 0) (i := i) (f := mu 73) (g := mu 74)
    rw [Nat.zero_add] at ec
    rw [ec]
    refine zn_iinc1 dX9_begin_20 rfl ?_
    refine z_goto (tgt := 2) dX9_begin_23 (by decide) ?_
    exact ih (i + 1) (by omega)
set_option maxRecDepth 4000 in
theorem m_begin {X : zX} {mu : zmu} {nu : znu} (d : Nat) : zJ X M_X9_begin d 0 0 0 [.ref 66, zu] [] 86 (zEE (mu) (nu)) (zlift (zex none (uR mu 74 (cpo 0 (mu 73) (mu 74) 16)) nu)) := by
  refine z_iconst (v := nI 0) dX9_begin_0 rfl ?_
  refine z_istore1 dX9_begin_1 rfl ?_
  have k := m_begin_l (X := X) (mu := mu) (nu := nu) d 16 0 (by omega)
  rw [cpo_0] at k
  exact k
theorem PG_begin {p : PT} (hp : PV p) {s : SC} {mu : zmu} (h : PG p s 73 mu) : PG p s 74 (uR mu 74 (cpo 0 (mu 73) (mu 74) 16)) := PG_from hp (a := 73) (o := 0) (mu := mu) (PGo_0.mpr h) (fun k hk => by
  rw [uR_s]
  have := cpo_at (o := 0) (f := mu 73) (g := mu 74) hk
  rw [Nat.zero_add] at this ⊢; exact this)
theorem S8_begin {mu : zmu} {f : Nat → Int32} : S8a 74 mu (uR mu 74 f) := fun z _ h => uR_a h
def lkK (p : PT) (cut a b : Nat) : Nat → Bool
  | 0 => kdk (pK p) cut a == kdk (pK p) cut b
  | i + 1 => lkK p cut a b i && lks p cut a b i
theorem lkK_4 (p : PT) (cut a b : Nat) : lkK p cut a b 4 = lke p cut a b := by simp [lkK, lke, Bool.and_assoc]
theorem lkK_s (p : PT) (cut a b i : Nat) : lkK p cut a b (i + 1) = (lkK p cut a b i && lks p cut a b i) := rfl
set_option maxRecDepth 4000 in
theorem m_areAlike_l {X : zX} {mu : zmu} {nu : znu} {p : PT} {s : SC} (hp : PV p) (hM : PM p mu) (hG : PG p s 73 mu) (hV : SVs p s) {u v : Nat} (hu : u < pw p * ph p) (hv : v < pw p * ph p) (d : Nat) : ∀ n i mu1, i + n = 4 → S81 mu mu1 → zJ X M_X9_areAlike (d + 2) 0 0 30 [.ref 66, .int (nI u), .int (nI v), .int (b2i (lkK p s.2 u v i)), .int (nI i)] [] 86 (zEE (mu1) (nu)) (zlift (QS1 (some (.int (b2i (lke p s.2 u v)))) mu nu)) := by
  intro n
  induction n with
  | zero =>
    intro i mu1 hi
    have h20 := hp.n20
    intro hS
    obtain rfl : i = 4 := by omega
    refine z_iload dX9_areAlike_30 rfl ?_
    refine z_iconst (v := nI 4) dX9_areAlike_32 rfl ?_
    refine zn_icmp_ge (tgt := 87) dX9_areAlike_33 (by decide) (by omega) (by omega) (fun hc33 => ?_) (fun hc33 => by omega)
    refine z_iload_n dX9_areAlike_87 rfl ?_
    exact y_zreturn dX9_areAlike_88 rfl (b2i_01 _) ⟨by rw [lkK_4], rfl, hS⟩
  | succ n ih =>
    intro i mu1 hi
    have h20 := hp.n20
    intro hS
    have hn1 := nbc_lt hp (dd := pd p) hp.2.2.2.2.1 hu (y := i) (by omega)
    have hn2 := nbc_lt hp (dd := pd p) hp.2.2.2.2.1 hv (y := i) (by omega)
    have hk1 := kdk_le hp (cut := s.2) hn1
    have hk2 := kdk_le hp (cut := s.2) hn2
    refine z_iload dX9_areAlike_30 rfl ?_
    refine z_iconst (v := nI 4) dX9_areAlike_32 rfl ?_
    refine zn_icmp_ge (tgt := 87) dX9_areAlike_33 (by decide) (by omega) (by omega) (fun hc33 => by omega) (fun hc33 => ?_)
    refine z_iload_n dX9_areAlike_36 rfl ?_
    refine zb_if_eq (tgt := 79) dX9_areAlike_37 (by decide) (fun hc37 => ?_) (fun hc37 => ?_)
    · refine z_iconst (v := nI 0) dX9_areAlike_79 rfl ?_
      refine z_istore3 dX9_areAlike_80 rfl ?_
      refine zn_iinc4 dX9_areAlike_81 rfl ?_
      refine z_goto (tgt := 30) dX9_areAlike_84 (by decide) ?_
      have e : lkK p s.2 u v (i + 1) = false := by rw [lkK_s, hc37]; rfl
      have k := ih (i + 1) mu1 (by omega) hS
      rw [e] at k; exact k
    · refine z_aload_n dX9_areAlike_40 rfl ?_
      refine z_aload_n dX9_areAlike_41 rfl ?_
      refine y_getR dX9_areAlike_42 lf_X9_35 rfl rfl ?_
      refine z_aload_n dX9_areAlike_45 rfl ?_
      refine z_iload_n dX9_areAlike_46 rfl ?_
      refine z_iload dX9_areAlike_47 rfl ?_
      refine z_iconst (v := nI 0) dX9_areAlike_49 rfl ?_
      refine y_callV3 (M' := M_X9_cellBeside) dX9_areAlike_50 lm_X9_187 cv_X9_cellBeside rfl (Nat.le_of_ble_eq_true rfl) (Nat.le_of_ble_eq_true rfl) rfl (m_cellBeside hp (PM_S hM hS) hu (y := i) (by omega) false _) (fun r mu2 nu2 hq2 => ?_)
      obtain ⟨rfl, rfl, hS2⟩ := hq2
      have hS12 := S81_tr hS hS2
      refine y_callV2x (M' := M_X9_kindOf) dX9_areAlike_53 lm_X9_144 cv_X9_kindOf rfl (Nat.le_of_ble_eq_true rfl) (Nat.le_of_ble_eq_true rfl) rfl (m_kindOf hp (PM_S hM hS12) p73 (PG_S hG p73 hS12) hV hn1 _) ?_
      refine z_aload_n dX9_areAlike_56 rfl ?_
      refine z_aload_n dX9_areAlike_57 rfl ?_
      refine y_getR dX9_areAlike_58 lf_X9_35 rfl rfl ?_
      refine z_aload_n dX9_areAlike_61 rfl ?_
      refine z_iload_n dX9_areAlike_62 rfl ?_
      refine z_iload dX9_areAlike_63 rfl ?_
      refine z_iconst (v := nI 0) dX9_areAlike_65 rfl ?_
      refine y_callV3 (M' := M_X9_cellBeside) dX9_areAlike_66 lm_X9_187 cv_X9_cellBeside rfl (Nat.le_of_ble_eq_true rfl) (Nat.le_of_ble_eq_true rfl) rfl (m_cellBeside hp (PM_S hM hS12) hv (y := i) (by omega) false _) (fun r mu3 nu3 hq3 => ?_)
      obtain ⟨rfl, rfl, hS3⟩ := hq3
      have hS13 := S81_tr hS12 hS3
      refine y_callV2x (M' := M_X9_kindOf) dX9_areAlike_69 lm_X9_144 cv_X9_kindOf rfl (Nat.le_of_ble_eq_true rfl) (Nat.le_of_ble_eq_true rfl) rfl (m_kindOf hp (PM_S hM hS13) p73 (PG_S hG p73 hS13) hV hn2 _) ?_
      refine zn_icmp_ne (tgt := 79) dX9_areAlike_72 (by decide) (by omega) (by omega) (fun hc72 => ?_) (fun hc72 => ?_)
      · refine z_iconst (v := nI 0) dX9_areAlike_79 rfl ?_
        refine z_istore3 dX9_areAlike_80 rfl ?_
        refine zn_iinc4 dX9_areAlike_81 rfl ?_
        refine z_goto (tgt := 30) dX9_areAlike_84 (by decide) ?_
        have e : lkK p s.2 u v (i + 1) = false := by rw [lkK_s, hc37]; simp [lks, hc72]
        have k := ih (i + 1) mu3 (by omega) hS13
        rw [e] at k; exact k
      · refine z_iconst (v := nI 1) dX9_areAlike_75 rfl ?_
        refine z_goto (tgt := 80) dX9_areAlike_76 (by decide) ?_
        refine z_istore3 dX9_areAlike_80 rfl ?_
        refine zn_iinc4 dX9_areAlike_81 rfl ?_
        refine z_goto (tgt := 30) dX9_areAlike_84 (by decide) ?_
        have e : lkK p s.2 u v (i + 1) = true := by rw [lkK_s, hc37]; simp [lks, hc72]
        have k := ih (i + 1) mu3 (by omega) hS13
        rw [e] at k; exact k
set_option maxRecDepth 4000 in
theorem m_areAlike {X : zX} {mu : zmu} {nu : znu} {p : PT} {s : SC} (hp : PV p) (hM : PM p mu) (hG : PG p s 73 mu) (hV : SVs p s) {u v : Nat} (hu : u < pw p * ph p) (hv : v < pw p * ph p) (d : Nat) : zJ X M_X9_areAlike (d + 2) 0 0 0 [.ref 66, .int (nI u), .int (nI v), zu, zu] [] 86 (zEE (mu) (nu)) (zlift (QS1 (some (.int (b2i (lke p s.2 u v)))) mu nu)) := by
  have hk1 := kdk_le hp (cut := s.2) hu
  have hk2 := kdk_le hp (cut := s.2) hv
  refine z_aload_n dX9_areAlike_0 rfl ?_
  refine z_aload_n dX9_areAlike_1 rfl ?_
  refine y_getR dX9_areAlike_2 lf_X9_35 rfl rfl ?_
  refine z_iload_n dX9_areAlike_5 rfl ?_
  refine y_callV2x (M' := M_X9_kindOf) dX9_areAlike_6 lm_X9_144 cv_X9_kindOf rfl (Nat.le_of_ble_eq_true rfl) (Nat.le_of_ble_eq_true rfl) rfl (m_kindOf hp hM p73 hG hV hu _) ?_
  refine z_aload_n dX9_areAlike_9 rfl ?_
  refine z_aload_n dX9_areAlike_10 rfl ?_
  refine y_getR dX9_areAlike_11 lf_X9_35 rfl rfl ?_
  refine z_iload_n dX9_areAlike_14 rfl ?_
  refine y_callV2x (M' := M_X9_kindOf) dX9_areAlike_15 lm_X9_144 cv_X9_kindOf rfl (Nat.le_of_ble_eq_true rfl) (Nat.le_of_ble_eq_true rfl) rfl (m_kindOf hp hM p73 hG hV hv _) ?_
  refine zn_icmp_ne (tgt := 25) dX9_areAlike_18 (by decide) (by omega) (by omega) (fun hc18 => ?_) (fun hc18 => ?_)
  · refine z_iconst (v := nI 0) dX9_areAlike_25 rfl ?_
    refine z_istore3 dX9_areAlike_26 rfl ?_
    refine z_iconst (v := nI 0) dX9_areAlike_27 rfl ?_
    refine z_istore4 dX9_areAlike_28 rfl ?_
    have e : lkK p s.2 u v 0 = false := by simp [lkK, hc18]
    have k := m_areAlike_l (X := X) (nu := nu) hp hM hG hV hu hv d 4 0 mu (by omega) S81_rf
    rw [e] at k; exact k
  · refine z_iconst (v := nI 1) dX9_areAlike_21 rfl ?_
    refine z_goto (tgt := 26) dX9_areAlike_22 (by decide) ?_
    refine z_istore3 dX9_areAlike_26 rfl ?_
    refine z_iconst (v := nI 0) dX9_areAlike_27 rfl ?_
    refine z_istore4 dX9_areAlike_28 rfl ?_
    have e : lkK p s.2 u v 0 = true := by simp [lkK, hc18]
    have k := m_areAlike_l (X := X) (nu := nu) hp hM hG hV hu hv d 4 0 mu (by omega) S81_rf
    rw [e] at k; exact k
set_option maxRecDepth 4000 in
theorem m_unlikeBy_l {X : zX} {mu : zmu} {nu : znu} {p : PT} {s : SC} (hp : PV p) (hM : PM p mu) (hG : PG p s 73 mu) (hV : SVs p s) {dd : Nat} (hd : dd < ph p) (d : Nat) : ∀ n i , i + n = ph p → zJ X M_X9_unlikeBy (d + 2) 0 0 4 [.ref 66, .int (nI dd), .int (nI (bcnt (ulr p s.2 dd) i)), .int (nI i)] [] 86 (zEE (mu) (nu)) (zlift (zex (some (.int (nI (unl p s.2 dd)))) mu nu)) := by
  intro n
  induction n with
  | zero =>
    intro i  hi
    have h4 := hp.2.2.2.1
    obtain rfl : i = ph p := by omega
    refine z_iload_n dX9_unlikeBy_4 rfl ?_
    refine z_aload_n dX9_unlikeBy_5 rfl ?_
    refine y_getIe dX9_unlikeBy_6 lf_X9_17 rfl rfl hM.2.1 ?_
    refine zn_icmp_ge (tgt := 71) dX9_unlikeBy_9 (by decide) (by omega) (by omega) (fun hc9 => ?_) (fun hc9 => by omega)
    refine z_iload_n dX9_unlikeBy_71 rfl ?_
    exact y_ireturn dX9_unlikeBy_72 rfl ⟨rfl, rfl, rfl⟩
  | succ n ih =>
    intro i  hi
    have h4 := hp.2.2.2.1
    have h1 := hp.1
    have h2 := hp.2.1
    obtain ⟨r1, r2, r3⟩ := row_at hp hd (r := i) (by omega)
    have hk1 := kdk_le hp (cut := s.2) r1
    have hk2 := kdk_le hp (cut := s.2) r2
    refine z_iload_n dX9_unlikeBy_4 rfl ?_
    refine z_aload_n dX9_unlikeBy_5 rfl ?_
    refine y_getIe dX9_unlikeBy_6 lf_X9_17 rfl rfl hM.2.1 ?_
    refine zn_icmp_ge (tgt := 71) dX9_unlikeBy_9 (by decide) (by omega) (by omega) (fun hc9 => by omega) (fun hc9 => ?_)
    refine z_iload_n dX9_unlikeBy_12 rfl ?_
    refine z_aload_n dX9_unlikeBy_13 rfl ?_
    refine z_aload_n dX9_unlikeBy_14 rfl ?_
    refine y_getR dX9_unlikeBy_15 lf_X9_35 rfl rfl ?_
    refine z_iload_n dX9_unlikeBy_18 rfl ?_
    refine z_aload_n dX9_unlikeBy_19 rfl ?_
    refine y_getIe dX9_unlikeBy_20 lf_X9_13 rfl rfl hM.1 ?_
    refine zn_imul dX9_unlikeBy_23 ?_
    refine z_aload_n dX9_unlikeBy_24 rfl ?_
    refine y_getIe dX9_unlikeBy_25 lf_X9_13 rfl rfl hM.1 ?_
    refine zn_iadd dX9_unlikeBy_28 ?_
    refine z_iconst (v := nI 1) dX9_unlikeBy_29 rfl ?_
    refine zn_isub dX9_unlikeBy_30 (Nat.le_trans (show 1 ≤ pw p by omega) (Nat.le_add_left _ _)) ?_
    refine y_callV2x (M' := M_X9_kindOf) dX9_unlikeBy_31 lm_X9_144 cv_X9_kindOf rfl (Nat.le_of_ble_eq_true rfl) (Nat.le_of_ble_eq_true rfl) rfl (m_kindOf hp hM p73 hG hV r1 _) ?_
    refine z_aload_n dX9_unlikeBy_34 rfl ?_
    refine z_aload_n dX9_unlikeBy_35 rfl ?_
    refine y_getR dX9_unlikeBy_36 lf_X9_35 rfl rfl ?_
    refine z_iload_n dX9_unlikeBy_39 rfl ?_
    refine z_iload_n dX9_unlikeBy_40 rfl ?_
    refine zn_iadd dX9_unlikeBy_41 ?_
    refine z_aload_n dX9_unlikeBy_42 rfl ?_
    refine y_getIe dX9_unlikeBy_43 lf_X9_17 rfl rfl hM.2.1 ?_
    refine zn_irem dX9_unlikeBy_46 (by omega) (by omega) (by omega) ?_
    refine z_aload_n dX9_unlikeBy_47 rfl ?_
    refine y_getIe dX9_unlikeBy_48 lf_X9_13 rfl rfl hM.1 ?_
    refine zn_imul dX9_unlikeBy_51 ?_
    refine y_callV2x (M' := M_X9_kindOf) dX9_unlikeBy_52 lm_X9_144 cv_X9_kindOf rfl (Nat.le_of_ble_eq_true rfl) (Nat.le_of_ble_eq_true rfl) rfl (m_kindOf hp hM p73 hG hV r2 _) ?_
    refine zn_icmp_ne (tgt := 62) dX9_unlikeBy_55 (by decide) (by omega) (by omega) (fun hc55 => ?_) (fun hc55 => ?_)
    · refine z_iconst (v := nI 1) dX9_unlikeBy_62 rfl ?_
      refine zn_iadd dX9_unlikeBy_63 ?_
      refine z_istore2 dX9_unlikeBy_64 rfl ?_
      refine zn_iinc3 dX9_unlikeBy_65 rfl ?_
      refine z_goto (tgt := 4) dX9_unlikeBy_68 (by decide) ?_
      have e : bcnt (ulr p s.2 dd) (i + 1) = bcnt (ulr p s.2 dd) i + 1 := by rw [bcnt_s, if_pos (by simp [ulr, hc55])]
      rw [← e]; exact ih (i + 1) (by omega)
    · refine z_iconst (v := nI 0) dX9_unlikeBy_58 rfl ?_
      refine z_goto (tgt := 63) dX9_unlikeBy_59 (by decide) ?_
      refine zn_iadd dX9_unlikeBy_63 ?_
      refine z_istore2 dX9_unlikeBy_64 rfl ?_
      refine zn_iinc3 dX9_unlikeBy_65 rfl ?_
      refine z_goto (tgt := 4) dX9_unlikeBy_68 (by decide) ?_
      have e : bcnt (ulr p s.2 dd) (i + 1) = bcnt (ulr p s.2 dd) i + 0 := by rw [bcnt_s, if_neg (by simp [ulr, hc55])]
      rw [← e]; exact ih (i + 1) (by omega)
set_option maxRecDepth 4000 in
theorem m_unlikeBy {X : zX} {mu : zmu} {nu : znu} {p : PT} {s : SC} (hp : PV p) (hM : PM p mu) (hG : PG p s 73 mu) (hV : SVs p s) {dd : Nat} (hd : dd < ph p) (d : Nat) : zJ X M_X9_unlikeBy (d + 2) 0 0 0 [.ref 66, .int (nI dd), zu, zu] [] 86 (zEE (mu) (nu)) (zlift (zex (some (.int (nI (unl p s.2 dd)))) mu nu)) := by
  refine z_iconst (v := nI 0) dX9_unlikeBy_0 rfl ?_
  refine z_istore2 dX9_unlikeBy_1 rfl ?_
  refine z_iconst (v := nI 0) dX9_unlikeBy_2 rfl ?_
  refine z_istore3 dX9_unlikeBy_3 rfl ?_
  exact m_unlikeBy_l hp hM hG hV hd d (ph p) 0 (by omega)
