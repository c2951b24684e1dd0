/-- the pattern, as the reference has it -/
def PM (p : PT) (mu : zmu) : Prop := mu 66 4 = nI (pw p) ∧ mu 66 5 = nI (ph p) ∧ mu 66 6 = nI (pd p) ∧ mu 66 8 = nI (pb p) ∧ (∀ c, c < pw p * ph p → mu 68 c = nI (pK p c)) ∧ (∀ b, b < pb p → mu 69 b = nI (pH p b) ∧ mu 70 b = nI (pX p b))
/-- a page -/
def PG (p : PT) (s : SC) (a : Nat) (mu : zmu) : Prop := (∀ b, b < pb p → mu a b = nI (s.1 b % 20) ∧ mu a (5 + b) = nI (s.1 b / 20 % 7) ∧ mu a (10 + b) = nI (s.1 b / 140)) ∧ mu a 15 = nI s.2
def pAt (a : Nat) : Prop := a = 73 ∨ a = 74
theorem pAt.k {a : Nat} (h : pAt a) : zk a = (0, 16, []) := by rcases h with rfl | rfl <;> rfl
theorem pAt.b {a : Nat} (h : pAt a) : 73 ≤ a ∧ a ≤ 74 := by rcases h with rfl | rfl <;> decide
theorem p73 : pAt 73 := Or.inl rfl
theorem p74 : pAt 74 := Or.inr rfl
/-- only the spot has changed -/
def S81 (mu mu1 : zmu) : Prop := ∀ a, a ≠ 81 → mu1 a = mu a
theorem S81_rf {mu : zmu} : S81 mu mu := fun _ _ => rfl
theorem S81_tr {m1 m2 m3 : zmu} (h : S81 m1 m2) (g : S81 m2 m3) : S81 m1 m3 := fun a ha => (g a ha).trans (h a ha)
theorem S81_u {mu : zmu} {k : Nat} {v : Int32} : S81 mu (u2 mu 81 k v) := fun a ha => u2_rowa ha
theorem PM_S {p : PT} {mu mu1 : zmu} (h : PM p mu) (e : S81 mu mu1) : PM p mu1 := by
  unfold PM at *; rw [e 66 (by decide), e 68 (by decide), e 69 (by decide), e 70 (by decide)]; exact h
theorem PG_e {p : PT} {s : SC} {a : Nat} {mu mu1 : zmu} (h : PG p s a mu) (e : mu1 a = mu a) : PG p s a mu1 := by
  unfold PG at *; rw [e]; exact h
theorem PG_S {p : PT} {s : SC} {a : Nat} {mu mu1 : zmu} (h : PG p s a mu) (ha : pAt a) (e : S81 mu mu1) : PG p s a mu1 := PG_e h (e a (by have := ha.b; omega))
theorem l_le {x y : Int64} : x ≤ y ↔ x.toInt ≤ y.toInt := Int64.le_iff_toInt_le
theorem il_toInt (x : Int32) : x.toInt64.toInt = x.toInt := Jvm.Kit.i64_of_i32 x
theorem nI_p1 (x : Nat) : nI (x + 1) - 1 = nI x := by
  have := pk_sub (a := x + 1) (b := 1) (by omega)
  rw [show x + 1 - 1 = x by omega] at this; exact this
theorem nI_m1t {t : Nat} (ht : t < 2 ^ 31) : (nI t - 1).toInt = (t : Int) - 1 := by
  cases t with
  | zero => decide
  | succ t => rw [nI_p1, nI_toInt (by omega)]; omega
theorem z64 : (0 : Int64).toInt = 0 := by decide
theorem z32 : (0 : Int32).toInt = 0 := by decide
theorem in_n {x : Int32} {n : Nat} (hn : n < 2 ^ 31) : decide ((0 : Int64) ≤ x.toInt64 ∧ x.toInt64 ≤ (nI n - 1).toInt64) = inr x n := by
  unfold inr
  apply Bool.eq_iff_iff.mpr
  simp only [decide_eq_true_eq, l_le, il_toInt, nI_m1t hn, z64, Int32.le_iff_toInt_le, Int32.lt_iff_toInt_lt, z32, nI_toInt hn]
  try omega
theorem in_c {x : Int32} {m : Nat} (hn : m + 1 < 2 ^ 31) : decide ((0 : Int64) ≤ x.toInt64 ∧ x.toInt64 ≤ nL m) = inr x (m + 1) := by
  unfold inr
  apply Bool.eq_iff_iff.mpr
  simp only [decide_eq_true_eq, l_le, il_toInt, nL_toInt (show m < 2 ^ 63 by omega), z64, Int32.le_iff_toInt_le, Int32.lt_iff_toInt_lt, z32, nI_toInt hn]
  try omega
theorem in_1 {x : Int32} {m : Nat} (hn : m < 2 ^ 31) : decide ((1 : Int64) ≤ x.toInt64 ∧ x.toInt64 ≤ nL m) = in1 x m := by
  unfold in1
  apply Bool.eq_iff_iff.mpr
  simp only [decide_eq_true_eq, l_le, il_toInt, nL_toInt (show m < 2 ^ 63 by omega), show (1 : Int64).toInt = 1 by decide, Int32.le_iff_toInt_le, nI_toInt hn, nI_toInt (show 1 < 2 ^ 31 by decide)]
  try omega
theorem in_9 {x : Int32} : decide ((-4 : Int64) ≤ x.toInt64 ∧ x.toInt64 ≤ nL 4) = in9 x := by
  unfold in9
  apply Bool.eq_iff_iff.mpr
  simp only [decide_eq_true_eq, l_le, il_toInt, nL_toInt (show 4 < 2 ^ 63 by decide), show (-4 : Int64).toInt = -4 by decide, Int32.le_iff_toInt_le, nI_toInt (show 4 < 2 ^ 31 by decide), show (-4 : Int32).toInt = -4 by decide]
  try omega
theorem in_06 {t : Nat} (ht : t < 1000) : decide ((0 : Int64) ≤ (nI t - 1).toInt64 ∧ (nI t - 1).toInt64 ≤ nL 6) = decide (1 ≤ t ∧ t ≤ 7) := by
  apply Bool.eq_iff_iff.mpr
  simp only [decide_eq_true_eq, l_le, il_toInt, nL_toInt (show 6 < 2 ^ 63 by decide), z64, nI_m1t (show t < 2 ^ 31 by omega)]
  try omega
set_option maxRecDepth 4000 in
theorem m_in {X : zX} {mu : zmu} {nu : znu} (v a b : Int64) (d : Nat) : zJ X M_X9_in d 0 0 0 [.long v, zu, .long a, zu, .long b, zu] [] 86 (zEE (mu) (nu)) (zlift (zex (some (.int (b2i (decide (a ≤ v ∧ v ≤ b))))) mu nu)) := by
  refine z_lload_n dX9_in_0 rfl ?_
  refine z_lload_n dX9_in_1 rfl ?_
  refine z_lcmp dX9_in_2 ?_
  refine z_if_lt (tgt := 17) dX9_in_3 (by decide) (fun hc3 => ?_) (fun hc3 => ?_)
  · refine z_iconst (v := nI 0) dX9_in_17 rfl ?_
    exact y_zreturn dX9_in_18 rfl (by first | exact Or.inl rfl | exact Or.inr rfl | assumption) ⟨by rw [b2i_f]; exact decide_eq_false (fun e => lg_le_not_lt e.1 ((lg_cmp_lt _ _).mp hc3)), rfl, rfl⟩
  · refine z_lload_n dX9_in_6 rfl ?_
    refine z_lload dX9_in_7 rfl ?_
    refine z_lcmp dX9_in_9 ?_
    refine z_if_gt (tgt := 17) dX9_in_10 (by decide) (fun hc10 => ?_) (fun hc10 => ?_)
    · refine z_iconst (v := nI 0) dX9_in_17 rfl ?_
      exact y_zreturn dX9_in_18 rfl (by first | exact Or.inl rfl | exact Or.inr rfl | assumption) ⟨by rw [b2i_f]; exact decide_eq_false (fun e => lg_le_not_lt e.2 ((lg_cmp_gt _ _).mp hc10)), rfl, rfl⟩
    · refine z_iconst (v := nI 1) dX9_in_13 rfl ?_
      refine z_goto (tgt := 18) dX9_in_14 (by decide) ?_
      exact y_zreturn dX9_in_18 rfl (by first | exact Or.inl rfl | exact Or.inr rfl | assumption) ⟨by rw [b2i_t]; exact decide_eq_true ⟨by have q : ¬ v < a := fun e => hc3 ((lg_cmp_lt _ _).mpr e); rw [Int64.lt_iff_toInt_lt] at q; rw [l_le]; omega, by have q : ¬ b < v := fun e => hc10 ((lg_cmp_gt _ _).mpr e); rw [Int64.lt_iff_toInt_lt] at q; rw [l_le]; omega⟩, rfl, rfl⟩
set_option maxRecDepth 4000 in
theorem m_has {X : zX} {mu : zmu} {nu : znu} {a k : Nat} (ha : a < 2 ^ 31) (hk : k < 32) (d : Nat) : zJ X M_X9_has d 0 0 0 [.int (nI a), .int (nI k)] [] 86 (zEE (mu) (nu)) (zlift (zex (some (.int (b2i (a.testBit k)))) mu nu)) := by
  refine z_iload_n dX9_has_0 rfl ?_
  refine z_iload_n dX9_has_1 rfl ?_
  refine zn_ishr dX9_has_2 (by omega) (by omega) ?_
  refine z_iconst (v := nI 1) dX9_has_3 rfl ?_
  refine zn_iand dX9_has_4 ?_
  rw [bit1]
  refine z_iconst (v := nI 1) dX9_has_5 rfl ?_
  refine zn_icmp_ne (tgt := 13) dX9_has_6 (by decide) (by split <;> omega) (by omega) (fun hc6 => ?_) (fun hc6 => ?_)
  · refine z_iconst (v := nI 0) dX9_has_13 rfl ?_
    exact y_zreturn dX9_has_14 rfl (by first | exact Or.inl rfl | exact Or.inr rfl | assumption) ⟨by rw [b2i_f]; cases h : a.testBit k <;> simp_all, rfl, rfl⟩
  · refine z_iconst (v := nI 1) dX9_has_9 rfl ?_
    refine z_goto (tgt := 14) dX9_has_10 (by decide) ?_
    exact y_zreturn dX9_has_14 rfl (by first | exact Or.inl rfl | exact Or.inr rfl | assumption) ⟨by rw [b2i_t]; cases h : a.testBit k <;> simp_all, rfl, rfl⟩
set_option maxRecDepth 4000 in
theorem m_many_l {X : zX} {mu : zmu} {nu : znu} {a : Nat} (ha : a < 2 ^ 31) (d : Nat) : ∀ n i , i + n = 20 → zJ X M_X9_many d 0 0 4 [.int (nI a), .int (nI (bcnt (fun j => a.testBit j) i)), .int (nI i)] [] 86 (zEE (mu) (nu)) (zlift (zex (some (.int (nI (popc a)))) mu nu)) := by
  intro n
  induction n with
  | zero =>
    intro i  hi
    obtain rfl : i = 20 := by omega
    refine z_iload_n dX9_many_4 rfl ?_
    refine z_bipush (v := nI 20) dX9_many_5 rfl ?_
    refine zn_icmp_ge (tgt := 24) dX9_many_7 (by decide) (by omega) (by omega) (fun hc7 => ?_) (fun hc7 => by omega)
    refine z_iload_n dX9_many_24 rfl ?_
    exact y_ireturn dX9_many_25 rfl ⟨rfl, rfl, rfl⟩
  | succ n ih =>
    intro i  hi
    refine z_iload_n dX9_many_4 rfl ?_
    refine z_bipush (v := nI 20) dX9_many_5 rfl ?_
    refine zn_icmp_ge (tgt := 24) dX9_many_7 (by decide) (by omega) (by omega) (fun hc7 => by omega) (fun hc7 => ?_)
    refine z_iload_n dX9_many_10 rfl ?_
    refine z_iload_n dX9_many_11 rfl ?_
    refine z_iload_n dX9_many_12 rfl ?_
    refine zn_ishr dX9_many_13 (by omega) (by omega) ?_
    refine z_iconst (v := nI 1) dX9_many_14 rfl ?_
    refine zn_iand dX9_many_15 ?_
    rw [bit1]
    refine zn_iadd dX9_many_16 ?_
    rw [show bcnt (fun j => a.testBit j) i + (if a.testBit i = true then 1 else 0) = bcnt (fun j => a.testBit j) (i + 1) from rfl]
    refine z_istore1 dX9_many_17 rfl ?_
    refine zn_iinc2 dX9_many_18 rfl ?_
    refine z_goto (tgt := 4) dX9_many_21 (by decide) ?_
    exact ih (i + 1) (by omega)
set_option maxRecDepth 4000 in
theorem m_many {X : zX} {mu : zmu} {nu : znu} {a : Nat} (ha : a < 2 ^ 31) (d : Nat) : zJ X M_X9_many d 0 0 0 [.int (nI a), zu, zu] [] 86 (zEE (mu) (nu)) (zlift (zex (some (.int (nI (popc a)))) mu nu)) := by
  refine z_iconst (v := nI 0) dX9_many_0 rfl ?_
  refine z_istore1 dX9_many_1 rfl ?_
  refine z_iconst (v := nI 0) dX9_many_2 rfl ?_
  refine z_istore2 dX9_many_3 rfl ?_
  exact m_many_l ha d 20 0 (by omega)
set_option maxRecDepth 4000 in
theorem m_power_l {X : zX} {mu : zmu} {nu : znu} {a m : Nat} (hm : m < 1000) (d : Nat) : ∀ n i , i + n = m → zJ X M_X9_power d 0 0 4 [.int (nI a), .int (nI m), .int (nI (a ^ i)), .int (nI i)] [] 86 (zEE (mu) (nu)) (zlift (zex (some (.int (nI (a ^ m)))) mu nu)) := by
  intro n
  induction n with
  | zero =>
    intro i  hi
    obtain rfl : i = m := by omega
    refine z_iload_n dX9_power_4 rfl ?_
    refine z_iload_n dX9_power_5 rfl ?_
    refine zn_icmp_ge (tgt := 19) dX9_power_6 (by decide) (by omega) (by omega) (fun hc6 => ?_) (fun hc6 => by omega)
    refine z_iload_n dX9_power_19 rfl ?_
    exact y_ireturn dX9_power_20 rfl ⟨rfl, rfl, rfl⟩
  | succ n ih =>
    intro i  hi
    refine z_iload_n dX9_power_4 rfl ?_
    refine z_iload_n dX9_power_5 rfl ?_
    refine zn_icmp_ge (tgt := 19) dX9_power_6 (by decide) (by omega) (by omega) (fun hc6 => by omega) (fun hc6 => ?_)
    refine z_iload_n dX9_power_9 rfl ?_
    refine z_iload_n dX9_power_10 rfl ?_
    refine zn_imul dX9_power_11 ?_
    rw [show a ^ i * a = a ^ (i + 1) from rfl]
    refine z_istore2 dX9_power_12 rfl ?_
    refine zn_iinc3 dX9_power_13 rfl ?_
    refine z_goto (tgt := 4) dX9_power_16 (by decide) ?_
    exact ih (i + 1) (by omega)
set_option maxRecDepth 4000 in
theorem m_power {X : zX} {mu : zmu} {nu : znu} {a m : Nat} (hm : m < 1000) (d : Nat) : zJ X M_X9_power d 0 0 0 [.int (nI a), .int (nI m), zu, zu] [] 86 (zEE (mu) (nu)) (zlift (zex (some (.int (nI (a ^ m)))) mu nu)) := by
  refine z_iconst (v := nI 1) dX9_power_0 rfl ?_
  refine z_istore2 dX9_power_1 rfl ?_
  refine z_iconst (v := nI 0) dX9_power_2 rfl ?_
  refine z_istore3 dX9_power_3 rfl ?_
  exact m_power_l hm d m 0 (by omega)
set_option maxRecDepth 4000 in
theorem m_noBoy {X : zX} {mu : zmu} {nu : znu} {p : PT} (hp : PV p) (hM : PM p mu) (x : Int32) (d : Nat) : zJ X M_X9_noBoy (d + 1) 0 0 0 [.ref 66, .int x] [] 86 (zEE (mu) (nu)) (zlift (zex (some (.int (b2i (!inr x (pb p))))) mu nu)) := by
  have h5 := hp.2.2.2.2.2.1
  refine z_iload_n dX9_noBoy_0 rfl ?_
  refine z_i2l dX9_noBoy_1 ?_
  refine z_lconst (v := 0) dX9_noBoy_2 rfl ?_
  refine z_aload_n dX9_noBoy_3 rfl ?_
  refine y_getIe dX9_noBoy_4 lf_X9_78 rfl rfl hM.2.2.2.1 ?_
  refine z_iconst (v := nI 1) dX9_noBoy_7 rfl ?_
  refine z_isub dX9_noBoy_8 ?_
  refine z_i2l dX9_noBoy_9 ?_
  refine y_callS3x (M' := M_X9_in) dX9_noBoy_10 lm_X9_81 cs_X9_in (Nat.le_of_ble_eq_true rfl) (Nat.le_of_ble_eq_true rfl) rfl (m_in _ _ _ _) ?_
  rw [show nI 1 = 1 from rfl, in_n (by omega)]
  refine zb_if_ne (tgt := 20) dX9_noBoy_13 (by decide) (fun hc13 => ?_) (fun hc13 => ?_)
  · refine z_iconst (v := nI 0) dX9_noBoy_20 rfl ?_
    exact y_zreturn dX9_noBoy_21 rfl (by first | exact Or.inl rfl | exact Or.inr rfl | assumption) ⟨by rw [hc13]; rfl, rfl, rfl⟩
  · refine z_iconst (v := nI 1) dX9_noBoy_16 rfl ?_
    refine z_goto (tgt := 21) dX9_noBoy_17 (by decide) ?_
    exact y_zreturn dX9_noBoy_21 rfl (by first | exact Or.inl rfl | exact Or.inr rfl | assumption) ⟨by rw [hc13]; rfl, rfl, rfl⟩
set_option maxRecDepth 4000 in
theorem m_noCell {X : zX} {mu : zmu} {nu : znu} {p : PT} (hp : PV p) (hM : PM p mu) (x : Int32) (d : Nat) : zJ X M_X9_noCell (d + 1) 0 0 0 [.ref 66, .int x] [] 86 (zEE (mu) (nu)) (zlift (zex (some (.int (b2i (!inr x (pw p * ph p))))) mu nu)) := by
  have h20 := hp.n20
  refine z_iload_n dX9_noCell_0 rfl ?_
  refine z_i2l dX9_noCell_1 ?_
  refine z_lconst (v := 0) dX9_noCell_2 rfl ?_
  refine z_aload_n dX9_noCell_3 rfl ?_
  refine y_getIe dX9_noCell_4 lf_X9_13 rfl rfl hM.1 ?_
  refine z_aload_n dX9_noCell_7 rfl ?_
  refine y_getIe dX9_noCell_8 lf_X9_17 rfl rfl hM.2.1 ?_
  refine zn_imul dX9_noCell_11 ?_
  refine z_iconst (v := nI 1) dX9_noCell_12 rfl ?_
  refine z_isub dX9_noCell_13 ?_
  refine z_i2l dX9_noCell_14 ?_
  refine y_callS3x (M' := M_X9_in) dX9_noCell_15 lm_X9_81 cs_X9_in (Nat.le_of_ble_eq_true rfl) (Nat.le_of_ble_eq_true rfl) rfl (m_in _ _ _ _) ?_
  rw [show nI 1 = 1 from rfl, in_n (by omega)]
  refine zb_if_ne (tgt := 25) dX9_noCell_18 (by decide) (fun hc18 => ?_) (fun hc18 => ?_)
  · refine z_iconst (v := nI 0) dX9_noCell_25 rfl ?_
    exact y_zreturn dX9_noCell_26 rfl (by first | exact Or.inl rfl | exact Or.inr rfl | assumption) ⟨by rw [hc18]; rfl, rfl, rfl⟩
  · refine z_iconst (v := nI 1) dX9_noCell_21 rfl ?_
    refine z_goto (tgt := 26) dX9_noCell_22 (by decide) ?_
    exact y_zreturn dX9_noCell_26 rfl (by first | exact Or.inl rfl | exact Or.inr rfl | assumption) ⟨by rw [hc18]; rfl, rfl, rfl⟩
set_option maxRecDepth 4000 in
theorem m_noWay {X : zX} {mu : zmu} {nu : znu} (x : Int32) (d : Nat) : zJ X M_X9_noWay (d + 1) 0 0 0 [.int x] [] 86 (zEE (mu) (nu)) (zlift (zex (some (.int (b2i (!inr x 4)))) mu nu)) := by
  refine z_iload_n dX9_noWay_0 rfl ?_
  refine z_i2l dX9_noWay_1 ?_
  refine z_lconst (v := 0) dX9_noWay_2 rfl ?_
  refine z_ldc2 (v := nL 3) dX9_noWay_3 lk_X9_85 ?_
  refine y_callS3x (M' := M_X9_in) dX9_noWay_6 lm_X9_81 cs_X9_in (Nat.le_of_ble_eq_true rfl) (Nat.le_of_ble_eq_true rfl) rfl (m_in _ _ _ _) ?_
  rw [in_c (m := 3) (by decide)]
  refine zb_if_ne (tgt := 16) dX9_noWay_9 (by decide) (fun hc9 => ?_) (fun hc9 => ?_)
  · refine z_iconst (v := nI 0) dX9_noWay_16 rfl ?_
    exact y_zreturn dX9_noWay_17 rfl (by first | exact Or.inl rfl | exact Or.inr rfl | assumption) ⟨by rw [hc9]; rfl, rfl, rfl⟩
  · refine z_iconst (v := nI 1) dX9_noWay_12 rfl ?_
    refine z_goto (tgt := 17) dX9_noWay_13 (by decide) ?_
    exact y_zreturn dX9_noWay_17 rfl (by first | exact Or.inl rfl | exact Or.inr rfl | assumption) ⟨by rw [hc9]; rfl, rfl, rfl⟩
theorem kdk_bit (K : Nat → Nat) (cut c : Nat) : kdk K cut c = if cut.testBit c = true then 0 else K c := by
  unfold kdk; rw [Nat.testBit_eq_decide_div_mod_eq]; simp
set_option maxRecDepth 4000 in
theorem m_kindOf {X : zX} {mu : zmu} {nu : znu} {p : PT} {s : SC} {a : Nat} (hp : PV p) (hM : PM p mu) (ha : pAt a) (hG : PG p s a mu) (hV : SVs p s) {c : Nat} (hc : c < pw p * ph p) (d : Nat) : zJ X M_X9_kindOf (d + 1) 0 0 0 [.ref 66, .ref a, .int (nI c)] [] 86 (zEE (mu) (nu)) (zlift (zex (some (.int (nI (kdk (pK p) s.2 c)))) mu nu)) := by
  have h20 := hp.n20
  have hcl : s.2 < 2 ^ 20 := hV.2
  rw [kdk_bit]
  refine z_aload_n dX9_kindOf_0 rfl ?_
  refine z_bipush (v := nI 15) dX9_kindOf_1 rfl ?_
  refine y_ialde dX9_kindOf_3 ha.k (by decide) (by omega) hG.2 ?_
  refine z_iload_n dX9_kindOf_4 rfl ?_
  refine y_callS2x (M' := M_X9_has) dX9_kindOf_5 lm_X9_134 cs_X9_has (Nat.le_of_ble_eq_true rfl) (Nat.le_of_ble_eq_true rfl) rfl (m_has (by omega) (by omega) _) ?_
  refine zb_if_eq (tgt := 15) dX9_kindOf_8 (by decide) (fun hc8 => ?_) (fun hc8 => ?_)
  · refine z_aload_n dX9_kindOf_15 rfl ?_
    refine y_getR dX9_kindOf_16 lf_X9_20 rfl rfl ?_
    refine z_iload_n dX9_kindOf_19 rfl ?_
    refine y_ialde dX9_kindOf_20 rfl (by decide) (by omega) (hM.2.2.2.2.1 c hc) ?_
    exact y_ireturn dX9_kindOf_21 rfl ⟨by simp [hc8], rfl, rfl⟩
  · refine z_iconst (v := nI 0) dX9_kindOf_11 rfl ?_
    refine z_goto (tgt := 21) dX9_kindOf_12 (by decide) ?_
    exact y_ireturn dX9_kindOf_21 rfl ⟨by simp [hc8], rfl, rfl⟩
def gtx (w h c y x : Nat) : Nat := if y < 2 then x + shn w h c y else x + 1
def gtz (w h c y z : Nat) : Nat := if y < 2 then z + 1 else z + shn w h c y
def Qg (p : PT) (dd c y x z : Nat) (mu : zmu) (nu : znu) : zq := fun r mu1 nu1 => r = none ∧ nu1 = nu ∧ S81 mu mu1 ∧ mu1 81 0 = nI (nbc (pw p) (ph p) dd c y) ∧ mu1 81 1 = nI (gtx (pw p) (ph p) c y x) - 1 ∧ mu1 81 2 = nI (gtz (pw p) (ph p) c y z) - 1
theorem nI_m0 (x : Nat) : nI x - nI 0 = nI (x + 1) - 1 := by rw [nI_p1]; exact pk_sub (by omega)
theorem nI_p2 (x : Nat) : nI (x + 1) = nI (x + 2) - 1 := (nI_p1 (x + 1)).symm
theorem nI_e {a b : Nat} (h : a = b) : nI a = nI b := by rw [h]
set_option maxRecDepth 4000 in
theorem m_goWay {X : zX} {mu : zmu} {nu : znu} {p : PT} (hp : PV p) (hM : PM p mu) {c y x z : Nat} (hc : c < pw p * ph p) (hy : y < 4) (hc0 : mu 81 0 = nI c) (hx : mu 81 1 = nI x) (hz : mu 81 2 = nI z) (s : Bool) (d : Nat) : zJ X M_X9_goWay d 0 0 0 [.ref 66, .int (nI y), .int (b2i s), zu, zu, zu, zu] [] 86 (zEE (mu) (nu)) (zlift (Qg p (if s = true then 0 else pd p) c y x z mu nu)) := by
  have h1 := hp.1
  have h2 := hp.2.1
  have h3 := hp.2.2.1
  have h4 := hp.2.2.2.1
  have h20 := hp.n20
  have hr : c / pw p < ph p := Nat.div_lt_of_lt_mul hc
  have hkk : c % pw p < pw p := Nat.mod_lt _ (by omega)
  have he := Nat.div_add_mod c (pw p)
  have hcm : c / pw p * pw p = pw p * (c / pw p) := Nat.mul_comm _ _
  have hpd := hp.2.2.2.2.1
  rcases Bool.eq_false_or_eq_true s with hs | hs <;> subst hs
  · obtain rfl | rfl | rfl | rfl : y = 0 ∨ y = 1 ∨ y = 2 ∨ y = 3 := by omega
    · refine z_aload_n dX9_goWay_0 rfl ?_
      refine y_getR dX9_goWay_1 lf_X9_60 rfl rfl ?_
      refine z_iconst (v := nI 0) dX9_goWay_4 rfl ?_
      refine y_ialde dX9_goWay_5 rfl (by decide) (by omega) hc0 ?_
      refine z_aload_n dX9_goWay_6 rfl ?_
      refine y_getIe dX9_goWay_7 lf_X9_13 rfl rfl hM.1 ?_
      refine zn_idiv dX9_goWay_10 (by omega) (by omega) (by omega) ?_
      refine z_istore3 dX9_goWay_11 rfl ?_
      refine z_aload_n dX9_goWay_12 rfl ?_
      refine y_getR dX9_goWay_13 lf_X9_60 rfl rfl ?_
      refine z_iconst (v := nI 0) dX9_goWay_16 rfl ?_
      refine y_ialde dX9_goWay_17 rfl (by decide) (by omega) hc0 ?_
      refine z_aload_n dX9_goWay_18 rfl ?_
      refine y_getIe dX9_goWay_19 lf_X9_13 rfl rfl hM.1 ?_
      refine zn_irem dX9_goWay_22 (by omega) (by omega) (by omega) ?_
      refine z_istore4 dX9_goWay_23 rfl ?_
      refine z_iload_n dX9_goWay_25 rfl ?_
      refine zb_if_eq (tgt := 33) dX9_goWay_26 (by decide) (fun hc26 => by exact Bool.noConfusion hc26) (fun hc26 => ?_)
      refine z_iconst (v := nI 0) dX9_goWay_29 rfl ?_
      refine z_goto (tgt := 37) dX9_goWay_30 (by decide) ?_
      refine z_istore5 dX9_goWay_37 rfl ?_
      refine z_iload_n dX9_goWay_39 rfl ?_
      refine zn_if_ne (tgt := 121) dX9_goWay_40 (by decide) (by omega) (fun hc40 => by omega) (fun hc40 => ?_)
      refine z_iload dX9_goWay_43 rfl ?_
      refine zn_if_ne (tgt := 52) dX9_goWay_45 (by decide) (by omega) (fun hc45 => ?_) (fun hc45 => ?_)
      · refine z_iconst (v := nI 0) dX9_goWay_52 rfl ?_
        refine z_istore6 dX9_goWay_53 rfl ?_
        refine z_iload dX9_goWay_55 rfl ?_
        refine zn_if_eq (tgt := 77) dX9_goWay_57 (by decide) (by omega) (fun hc57 => ?_) (fun hc57 => by omega)
        refine z_iload_n dX9_goWay_77 rfl ?_
        refine z_istore3 dX9_goWay_78 rfl ?_
        refine z_aload_n dX9_goWay_79 rfl ?_
        refine y_getR dX9_goWay_80 lf_X9_60 rfl rfl ?_
        refine z_iconst (v := nI 1) dX9_goWay_83 rfl ?_
        refine z_dup2 dX9_goWay_84 rfl rfl ?_
        refine y_ialde dX9_goWay_85 rfl (by decide) (by omega) hx ?_
        refine z_iload dX9_goWay_86 rfl ?_
        refine zn_if_eq (tgt := 95) dX9_goWay_88 (by decide) (by omega) (fun hc88 => ?_) (fun hc88 => by omega)
        refine z_iconst (v := nI 0) dX9_goWay_95 rfl ?_
        refine z_isub dX9_goWay_96 ?_
        refine y_iast dX9_goWay_97 rfl (by decide) (by omega) ?_
        refine z_iload dX9_goWay_98 rfl ?_
        refine zn_if_eq (tgt := 112) dX9_goWay_100 (by decide) (by omega) (fun hc100 => ?_) (fun hc100 => by omega)
        refine z_iload dX9_goWay_112 rfl ?_
        refine z_iconst (v := nI 1) dX9_goWay_114 rfl ?_
        refine zn_isub dX9_goWay_115 (by omega) ?_
        refine z_istore4 dX9_goWay_116 rfl ?_
        refine z_goto (tgt := 285) dX9_goWay_118 (by decide) ?_
        refine z_aload_n dX9_goWay_285 rfl ?_
        refine y_getR dX9_goWay_286 lf_X9_60 rfl rfl ?_
        refine z_iconst (v := nI 0) dX9_goWay_289 rfl ?_
        refine z_iload_n dX9_goWay_290 rfl ?_
        refine z_aload_n dX9_goWay_291 rfl ?_
        refine y_getIe dX9_goWay_292 lf_X9_13 rfl rfl ((u2_a (by decide)).trans hM.1) ?_
        refine zn_imul dX9_goWay_295 ?_
        refine z_iload dX9_goWay_296 rfl ?_
        refine zn_iadd dX9_goWay_298 ?_
        refine y_iast dX9_goWay_299 rfl (by decide) (by omega) ?_
        exact y_return dX9_goWay_300 rfl ⟨rfl, rfl, S81_tr S81_u S81_u, by rw [u2_s]; exact nI_e (by simp only [nbc]; first | rfl | (simp [hc45]; done) | (simp [hc45]; omega)), by rw [u2_k (by decide), u2_s]; simp [gtx, shn, hc45, nI_m0], by rw [u2_k (by decide), u2_k (by decide), hz]; simp [gtz, nI_p1]⟩
      · refine z_iconst (v := nI 1) dX9_goWay_48 rfl ?_
        refine z_goto (tgt := 53) dX9_goWay_49 (by decide) ?_
        refine z_istore6 dX9_goWay_53 rfl ?_
        refine z_iload dX9_goWay_55 rfl ?_
        refine zn_if_eq (tgt := 77) dX9_goWay_57 (by decide) (by omega) (fun hc57 => by omega) (fun hc57 => ?_)
        refine z_iload_n dX9_goWay_60 rfl ?_
        refine z_aload_n dX9_goWay_61 rfl ?_
        refine y_getIe dX9_goWay_62 lf_X9_17 rfl rfl hM.2.1 ?_
        refine zn_iadd dX9_goWay_65 ?_
        refine z_iload dX9_goWay_66 rfl ?_
        refine zn_isub dX9_goWay_68 (Nat.le_trans (by omega) (Nat.le_add_left (ph p) (c / pw p))) ?_
        refine z_aload_n dX9_goWay_69 rfl ?_
        refine y_getIe dX9_goWay_70 lf_X9_17 rfl rfl hM.2.1 ?_
        refine zn_irem dX9_goWay_73 (by omega) (by omega) (by omega) ?_
        refine z_goto (tgt := 78) dX9_goWay_74 (by decide) ?_
        refine z_istore3 dX9_goWay_78 rfl ?_
        refine z_aload_n dX9_goWay_79 rfl ?_
        refine y_getR dX9_goWay_80 lf_X9_60 rfl rfl ?_
        refine z_iconst (v := nI 1) dX9_goWay_83 rfl ?_
        refine z_dup2 dX9_goWay_84 rfl rfl ?_
        refine y_ialde dX9_goWay_85 rfl (by decide) (by omega) hx ?_
        refine z_iload dX9_goWay_86 rfl ?_
        refine zn_if_eq (tgt := 95) dX9_goWay_88 (by decide) (by omega) (fun hc88 => by omega) (fun hc88 => ?_)
        refine z_iconst (v := nI 1) dX9_goWay_91 rfl ?_
        refine z_goto (tgt := 96) dX9_goWay_92 (by decide) ?_
        refine z_isub dX9_goWay_96 ?_
        refine y_iast dX9_goWay_97 rfl (by decide) (by omega) ?_
        refine z_iload dX9_goWay_98 rfl ?_
        refine zn_if_eq (tgt := 112) dX9_goWay_100 (by decide) (by omega) (fun hc100 => by omega) (fun hc100 => ?_)
        refine z_aload_n dX9_goWay_103 rfl ?_
        refine y_getIe dX9_goWay_104 lf_X9_13 rfl rfl ((u2_a (by decide)).trans hM.1) ?_
        refine z_iconst (v := nI 1) dX9_goWay_107 rfl ?_
        refine zn_isub dX9_goWay_108 (by omega) ?_
        refine z_goto (tgt := 116) dX9_goWay_109 (by decide) ?_
        refine z_istore4 dX9_goWay_116 rfl ?_
        refine z_goto (tgt := 285) dX9_goWay_118 (by decide) ?_
        refine z_aload_n dX9_goWay_285 rfl ?_
        refine y_getR dX9_goWay_286 lf_X9_60 rfl rfl ?_
        refine z_iconst (v := nI 0) dX9_goWay_289 rfl ?_
        refine z_iload_n dX9_goWay_290 rfl ?_
        refine z_aload_n dX9_goWay_291 rfl ?_
        refine y_getIe dX9_goWay_292 lf_X9_13 rfl rfl ((u2_a (by decide)).trans hM.1) ?_
        refine zn_imul dX9_goWay_295 ?_
        refine z_iload dX9_goWay_296 rfl ?_
        refine zn_iadd dX9_goWay_298 ?_
        refine y_iast dX9_goWay_299 rfl (by decide) (by omega) ?_
        exact y_return dX9_goWay_300 rfl ⟨rfl, rfl, S81_tr S81_u S81_u, by rw [u2_s]; exact nI_e (by simp only [nbc]; first | rfl | (simp [hc45]; done) | (simp [hc45]; omega)), by rw [u2_k (by decide), u2_s]; simp [gtx, shn, hc45]; rfl, by rw [u2_k (by decide), u2_k (by decide), hz]; simp [gtz, nI_p1]⟩
    · refine z_aload_n dX9_goWay_0 rfl ?_
      refine y_getR dX9_goWay_1 lf_X9_60 rfl rfl ?_
      refine z_iconst (v := nI 0) dX9_goWay_4 rfl ?_
      refine y_ialde dX9_goWay_5 rfl (by decide) (by omega) hc0 ?_
      refine z_aload_n dX9_goWay_6 rfl ?_
      refine y_getIe dX9_goWay_7 lf_X9_13 rfl rfl hM.1 ?_
      refine zn_idiv dX9_goWay_10 (by omega) (by omega) (by omega) ?_
      refine z_istore3 dX9_goWay_11 rfl ?_
      refine z_aload_n dX9_goWay_12 rfl ?_
      refine y_getR dX9_goWay_13 lf_X9_60 rfl rfl ?_
      refine z_iconst (v := nI 0) dX9_goWay_16 rfl ?_
      refine y_ialde dX9_goWay_17 rfl (by decide) (by omega) hc0 ?_
      refine z_aload_n dX9_goWay_18 rfl ?_
      refine y_getIe dX9_goWay_19 lf_X9_13 rfl rfl hM.1 ?_
      refine zn_irem dX9_goWay_22 (by omega) (by omega) (by omega) ?_
      refine z_istore4 dX9_goWay_23 rfl ?_
      refine z_iload_n dX9_goWay_25 rfl ?_
      refine zb_if_eq (tgt := 33) dX9_goWay_26 (by decide) (fun hc26 => by exact Bool.noConfusion hc26) (fun hc26 => ?_)
      refine z_iconst (v := nI 0) dX9_goWay_29 rfl ?_
      refine z_goto (tgt := 37) dX9_goWay_30 (by decide) ?_
      refine z_istore5 dX9_goWay_37 rfl ?_
      refine z_iload_n dX9_goWay_39 rfl ?_
      refine zn_if_ne (tgt := 121) dX9_goWay_40 (by decide) (by omega) (fun hc40 => ?_) (fun hc40 => by omega)
      refine z_iload_n dX9_goWay_121 rfl ?_
      refine z_iconst (v := nI 1) dX9_goWay_122 rfl ?_
      refine zn_icmp_ne (tgt := 200) dX9_goWay_123 (by decide) (by omega) (by omega) (fun hc123 => by omega) (fun hc123 => ?_)
      refine z_iload dX9_goWay_126 rfl ?_
      refine z_aload_n dX9_goWay_128 rfl ?_
      refine y_getIe dX9_goWay_129 lf_X9_13 rfl rfl hM.1 ?_
      refine z_iconst (v := nI 1) dX9_goWay_132 rfl ?_
      refine zn_isub dX9_goWay_133 (by omega) ?_
      refine zn_icmp_ne (tgt := 141) dX9_goWay_134 (by decide) (by omega) (by omega) (fun hc134 => ?_) (fun hc134 => ?_)
      · refine z_iconst (v := nI 0) dX9_goWay_141 rfl ?_
        refine z_istore6 dX9_goWay_142 rfl ?_
        refine z_iload dX9_goWay_144 rfl ?_
        refine zn_if_eq (tgt := 161) dX9_goWay_146 (by decide) (by omega) (fun hc146 => ?_) (fun hc146 => by omega)
        refine z_iload_n dX9_goWay_161 rfl ?_
        refine z_istore3 dX9_goWay_162 rfl ?_
        refine z_aload_n dX9_goWay_163 rfl ?_
        refine y_getR dX9_goWay_164 lf_X9_60 rfl rfl ?_
        refine z_iconst (v := nI 1) dX9_goWay_167 rfl ?_
        refine z_dup2 dX9_goWay_168 rfl rfl ?_
        refine y_ialde dX9_goWay_169 rfl (by decide) (by omega) hx ?_
        refine z_iload dX9_goWay_170 rfl ?_
        refine zn_if_eq (tgt := 179) dX9_goWay_172 (by decide) (by omega) (fun hc172 => ?_) (fun hc172 => by omega)
        refine z_iconst (v := nI 0) dX9_goWay_179 rfl ?_
        refine zn_iadd dX9_goWay_180 ?_
        refine y_iast dX9_goWay_181 rfl (by decide) (by omega) ?_
        refine z_iload dX9_goWay_182 rfl ?_
        refine zn_if_eq (tgt := 191) dX9_goWay_184 (by decide) (by omega) (fun hc184 => ?_) (fun hc184 => by omega)
        refine z_iload dX9_goWay_191 rfl ?_
        refine z_iconst (v := nI 1) dX9_goWay_193 rfl ?_
        refine zn_iadd dX9_goWay_194 ?_
        refine z_istore4 dX9_goWay_195 rfl ?_
        refine z_goto (tgt := 285) dX9_goWay_197 (by decide) ?_
        refine z_aload_n dX9_goWay_285 rfl ?_
        refine y_getR dX9_goWay_286 lf_X9_60 rfl rfl ?_
        refine z_iconst (v := nI 0) dX9_goWay_289 rfl ?_
        refine z_iload_n dX9_goWay_290 rfl ?_
        refine z_aload_n dX9_goWay_291 rfl ?_
        refine y_getIe dX9_goWay_292 lf_X9_13 rfl rfl ((u2_a (by decide)).trans hM.1) ?_
        refine zn_imul dX9_goWay_295 ?_
        refine z_iload dX9_goWay_296 rfl ?_
        refine zn_iadd dX9_goWay_298 ?_
        refine y_iast dX9_goWay_299 rfl (by decide) (by omega) ?_
        exact y_return dX9_goWay_300 rfl ⟨rfl, rfl, S81_tr S81_u S81_u, by rw [u2_s]; exact nI_e (by simp only [nbc]; first | rfl | (simp [hc134]; done) | (simp [hc134]; omega)), by rw [u2_k (by decide), u2_s]; simp [gtx, shn, hc134, nI_p1], by rw [u2_k (by decide), u2_k (by decide), hz]; simp [gtz, nI_p1]⟩
      · refine z_iconst (v := nI 1) dX9_goWay_137 rfl ?_
        refine z_goto (tgt := 142) dX9_goWay_138 (by decide) ?_
        refine z_istore6 dX9_goWay_142 rfl ?_
        refine z_iload dX9_goWay_144 rfl ?_
        refine zn_if_eq (tgt := 161) dX9_goWay_146 (by decide) (by omega) (fun hc146 => by omega) (fun hc146 => ?_)
        refine z_iload_n dX9_goWay_149 rfl ?_
        refine z_iload dX9_goWay_150 rfl ?_
        refine zn_iadd dX9_goWay_152 ?_
        refine z_aload_n dX9_goWay_153 rfl ?_
        refine y_getIe dX9_goWay_154 lf_X9_17 rfl rfl hM.2.1 ?_
        refine zn_irem dX9_goWay_157 (by omega) (by omega) (by omega) ?_
        refine z_goto (tgt := 162) dX9_goWay_158 (by decide) ?_
        refine z_istore3 dX9_goWay_162 rfl ?_
        refine z_aload_n dX9_goWay_163 rfl ?_
        refine y_getR dX9_goWay_164 lf_X9_60 rfl rfl ?_
        refine z_iconst (v := nI 1) dX9_goWay_167 rfl ?_
        refine z_dup2 dX9_goWay_168 rfl rfl ?_
        refine y_ialde dX9_goWay_169 rfl (by decide) (by omega) hx ?_
        refine z_iload dX9_goWay_170 rfl ?_
        refine zn_if_eq (tgt := 179) dX9_goWay_172 (by decide) (by omega) (fun hc172 => by omega) (fun hc172 => ?_)
        refine z_iconst (v := nI 1) dX9_goWay_175 rfl ?_
        refine z_goto (tgt := 180) dX9_goWay_176 (by decide) ?_
        refine zn_iadd dX9_goWay_180 ?_
        refine y_iast dX9_goWay_181 rfl (by decide) (by omega) ?_
        refine z_iload dX9_goWay_182 rfl ?_
        refine zn_if_eq (tgt := 191) dX9_goWay_184 (by decide) (by omega) (fun hc184 => by omega) (fun hc184 => ?_)
        refine z_iconst (v := nI 0) dX9_goWay_187 rfl ?_
        refine z_goto (tgt := 195) dX9_goWay_188 (by decide) ?_
        refine z_istore4 dX9_goWay_195 rfl ?_
        refine z_goto (tgt := 285) dX9_goWay_197 (by decide) ?_
        refine z_aload_n dX9_goWay_285 rfl ?_
        refine y_getR dX9_goWay_286 lf_X9_60 rfl rfl ?_
        refine z_iconst (v := nI 0) dX9_goWay_289 rfl ?_
        refine z_iload_n dX9_goWay_290 rfl ?_
        refine z_aload_n dX9_goWay_291 rfl ?_
        refine y_getIe dX9_goWay_292 lf_X9_13 rfl rfl ((u2_a (by decide)).trans hM.1) ?_
        refine zn_imul dX9_goWay_295 ?_
        refine z_iload dX9_goWay_296 rfl ?_
        refine zn_iadd dX9_goWay_298 ?_
        refine y_iast dX9_goWay_299 rfl (by decide) (by omega) ?_
        exact y_return dX9_goWay_300 rfl ⟨rfl, rfl, S81_tr S81_u S81_u, by rw [u2_s]; exact nI_e (by simp only [nbc]; first | rfl | (simp [hc134]; done) | (simp [hc134]; omega)), by rw [u2_k (by decide), u2_s]; simp [gtx, shn, hc134]; exact nI_p2 x, by rw [u2_k (by decide), u2_k (by decide), hz]; simp [gtz, nI_p1]⟩
    · refine z_aload_n dX9_goWay_0 rfl ?_
      refine y_getR dX9_goWay_1 lf_X9_60 rfl rfl ?_
      refine z_iconst (v := nI 0) dX9_goWay_4 rfl ?_
      refine y_ialde dX9_goWay_5 rfl (by decide) (by omega) hc0 ?_
      refine z_aload_n dX9_goWay_6 rfl ?_
      refine y_getIe dX9_goWay_7 lf_X9_13 rfl rfl hM.1 ?_
      refine zn_idiv dX9_goWay_10 (by omega) (by omega) (by omega) ?_
      refine z_istore3 dX9_goWay_11 rfl ?_
      refine z_aload_n dX9_goWay_12 rfl ?_
      refine y_getR dX9_goWay_13 lf_X9_60 rfl rfl ?_
      refine z_iconst (v := nI 0) dX9_goWay_16 rfl ?_
      refine y_ialde dX9_goWay_17 rfl (by decide) (by omega) hc0 ?_
      refine z_aload_n dX9_goWay_18 rfl ?_
      refine y_getIe dX9_goWay_19 lf_X9_13 rfl rfl hM.1 ?_
      refine zn_irem dX9_goWay_22 (by omega) (by omega) (by omega) ?_
      refine z_istore4 dX9_goWay_23 rfl ?_
      refine z_iload_n dX9_goWay_25 rfl ?_
      refine zb_if_eq (tgt := 33) dX9_goWay_26 (by decide) (fun hc26 => by exact Bool.noConfusion hc26) (fun hc26 => ?_)
      refine z_iconst (v := nI 0) dX9_goWay_29 rfl ?_
      refine z_goto (tgt := 37) dX9_goWay_30 (by decide) ?_
      refine z_istore5 dX9_goWay_37 rfl ?_
      refine z_iload_n dX9_goWay_39 rfl ?_
      refine zn_if_ne (tgt := 121) dX9_goWay_40 (by decide) (by omega) (fun hc40 => ?_) (fun hc40 => by omega)
      refine z_iload_n dX9_goWay_121 rfl ?_
      refine z_iconst (v := nI 1) dX9_goWay_122 rfl ?_
      refine zn_icmp_ne (tgt := 200) dX9_goWay_123 (by decide) (by omega) (by omega) (fun hc123 => ?_) (fun hc123 => by omega)
      refine z_iload_n dX9_goWay_200 rfl ?_
      refine z_iconst (v := nI 2) dX9_goWay_201 rfl ?_
      refine zn_icmp_ne (tgt := 243) dX9_goWay_202 (by decide) (by omega) (by omega) (fun hc202 => by omega) (fun hc202 => ?_)
      refine z_aload_n dX9_goWay_205 rfl ?_
      refine y_getR dX9_goWay_206 lf_X9_60 rfl rfl ?_
      refine z_iconst (v := nI 2) dX9_goWay_209 rfl ?_
      refine z_dup2 dX9_goWay_210 rfl rfl ?_
      refine y_ialde dX9_goWay_211 rfl (by decide) (by omega) hz ?_
      refine z_iload_n dX9_goWay_212 rfl ?_
      refine zn_if_ne (tgt := 220) dX9_goWay_213 (by decide) (by omega) (fun hc213 => ?_) (fun hc213 => ?_)
      · refine z_iconst (v := nI 0) dX9_goWay_220 rfl ?_
        refine z_isub dX9_goWay_221 ?_
        refine y_iast dX9_goWay_222 rfl (by decide) (by omega) ?_
        refine z_iload_n dX9_goWay_223 rfl ?_
        refine zn_if_ne (tgt := 236) dX9_goWay_224 (by decide) (by omega) (fun hc224 => ?_) (fun hc224 => by omega)
        refine z_iload_n dX9_goWay_236 rfl ?_
        refine z_iconst (v := nI 1) dX9_goWay_237 rfl ?_
        refine zn_isub dX9_goWay_238 (Nat.pos_of_ne_zero hc213) ?_
        refine z_istore3 dX9_goWay_239 rfl ?_
        refine z_goto (tgt := 285) dX9_goWay_240 (by decide) ?_
        refine z_aload_n dX9_goWay_285 rfl ?_
        refine y_getR dX9_goWay_286 lf_X9_60 rfl rfl ?_
        refine z_iconst (v := nI 0) dX9_goWay_289 rfl ?_
        refine z_iload_n dX9_goWay_290 rfl ?_
        refine z_aload_n dX9_goWay_291 rfl ?_
        refine y_getIe dX9_goWay_292 lf_X9_13 rfl rfl ((u2_a (by decide)).trans hM.1) ?_
        refine zn_imul dX9_goWay_295 ?_
        refine z_iload dX9_goWay_296 rfl ?_
        refine zn_iadd dX9_goWay_298 ?_
        refine y_iast dX9_goWay_299 rfl (by decide) (by omega) ?_
        exact y_return dX9_goWay_300 rfl ⟨rfl, rfl, S81_tr S81_u S81_u, by rw [u2_s]; exact nI_e (by simp only [nbc]; first | rfl | (simp [hc213]; done) | (simp [hc213]; omega)), by rw [u2_k (by decide), u2_k (by decide), hx]; simp [gtx, nI_p1], by rw [u2_k (by decide), u2_s]; simp [gtz, shn, hc213, nI_m0]⟩
      · refine z_iconst (v := nI 1) dX9_goWay_216 rfl ?_
        refine z_goto (tgt := 221) dX9_goWay_217 (by decide) ?_
        refine z_isub dX9_goWay_221 ?_
        refine y_iast dX9_goWay_222 rfl (by decide) (by omega) ?_
        refine z_iload_n dX9_goWay_223 rfl ?_
        refine zn_if_ne (tgt := 236) dX9_goWay_224 (by decide) (by omega) (fun hc224 => by omega) (fun hc224 => ?_)
        refine z_aload_n dX9_goWay_227 rfl ?_
        refine y_getIe dX9_goWay_228 lf_X9_17 rfl rfl ((u2_a (by decide)).trans hM.2.1) ?_
        refine z_iconst (v := nI 1) dX9_goWay_231 rfl ?_
        refine zn_isub dX9_goWay_232 (by omega) ?_
        refine z_goto (tgt := 239) dX9_goWay_233 (by decide) ?_
        refine z_istore3 dX9_goWay_239 rfl ?_
        refine z_goto (tgt := 285) dX9_goWay_240 (by decide) ?_
        refine z_aload_n dX9_goWay_285 rfl ?_
        refine y_getR dX9_goWay_286 lf_X9_60 rfl rfl ?_
        refine z_iconst (v := nI 0) dX9_goWay_289 rfl ?_
        refine z_iload_n dX9_goWay_290 rfl ?_
        refine z_aload_n dX9_goWay_291 rfl ?_
        refine y_getIe dX9_goWay_292 lf_X9_13 rfl rfl ((u2_a (by decide)).trans hM.1) ?_
        refine zn_imul dX9_goWay_295 ?_
        refine z_iload dX9_goWay_296 rfl ?_
        refine zn_iadd dX9_goWay_298 ?_
        refine y_iast dX9_goWay_299 rfl (by decide) (by omega) ?_
        exact y_return dX9_goWay_300 rfl ⟨rfl, rfl, S81_tr S81_u S81_u, by rw [u2_s]; exact nI_e (by simp only [nbc]; first | rfl | (simp [hc213]; done) | (simp [hc213]; omega)), by rw [u2_k (by decide), u2_k (by decide), hx]; simp [gtx, nI_p1], by rw [u2_k (by decide), u2_s]; simp [gtz, shn, hc213]; rfl⟩
    · refine z_aload_n dX9_goWay_0 rfl ?_
      refine y_getR dX9_goWay_1 lf_X9_60 rfl rfl ?_
      refine z_iconst (v := nI 0) dX9_goWay_4 rfl ?_
      refine y_ialde dX9_goWay_5 rfl (by decide) (by omega) hc0 ?_
      refine z_aload_n dX9_goWay_6 rfl ?_
      refine y_getIe dX9_goWay_7 lf_X9_13 rfl rfl hM.1 ?_
      refine zn_idiv dX9_goWay_10 (by omega) (by omega) (by omega) ?_
      refine z_istore3 dX9_goWay_11 rfl ?_
      refine z_aload_n dX9_goWay_12 rfl ?_
      refine y_getR dX9_goWay_13 lf_X9_60 rfl rfl ?_
      refine z_iconst (v := nI 0) dX9_goWay_16 rfl ?_
      refine y_ialde dX9_goWay_17 rfl (by decide) (by omega) hc0 ?_
      refine z_aload_n dX9_goWay_18 rfl ?_
      refine y_getIe dX9_goWay_19 lf_X9_13 rfl rfl hM.1 ?_
      refine zn_irem dX9_goWay_22 (by omega) (by omega) (by omega) ?_
      refine z_istore4 dX9_goWay_23 rfl ?_
      refine z_iload_n dX9_goWay_25 rfl ?_
      refine zb_if_eq (tgt := 33) dX9_goWay_26 (by decide) (fun hc26 => by exact Bool.noConfusion hc26) (fun hc26 => ?_)
      refine z_iconst (v := nI 0) dX9_goWay_29 rfl ?_
      refine z_goto (tgt := 37) dX9_goWay_30 (by decide) ?_
      refine z_istore5 dX9_goWay_37 rfl ?_
      refine z_iload_n dX9_goWay_39 rfl ?_
      refine zn_if_ne (tgt := 121) dX9_goWay_40 (by decide) (by omega) (fun hc40 => ?_) (fun hc40 => by omega)
      refine z_iload_n dX9_goWay_121 rfl ?_
      refine z_iconst (v := nI 1) dX9_goWay_122 rfl ?_
      refine zn_icmp_ne (tgt := 200) dX9_goWay_123 (by decide) (by omega) (by omega) (fun hc123 => ?_) (fun hc123 => by omega)
      refine z_iload_n dX9_goWay_200 rfl ?_
      refine z_iconst (v := nI 2) dX9_goWay_201 rfl ?_
      refine zn_icmp_ne (tgt := 243) dX9_goWay_202 (by decide) (by omega) (by omega) (fun hc202 => ?_) (fun hc202 => by omega)
      refine z_aload_n dX9_goWay_243 rfl ?_
      refine y_getR dX9_goWay_244 lf_X9_60 rfl rfl ?_
      refine z_iconst (v := nI 2) dX9_goWay_247 rfl ?_
      refine z_dup2 dX9_goWay_248 rfl rfl ?_
      refine y_ialde dX9_goWay_249 rfl (by decide) (by omega) hz ?_
      refine z_iload_n dX9_goWay_250 rfl ?_
      refine z_aload_n dX9_goWay_251 rfl ?_
      refine y_getIe dX9_goWay_252 lf_X9_17 rfl rfl hM.2.1 ?_
      refine z_iconst (v := nI 1) dX9_goWay_255 rfl ?_
      refine zn_isub dX9_goWay_256 (by omega) ?_
      refine zn_icmp_ne (tgt := 264) dX9_goWay_257 (by decide) (by omega) (by omega) (fun hc257 => ?_) (fun hc257 => ?_)
      · refine z_iconst (v := nI 0) dX9_goWay_264 rfl ?_
        refine zn_iadd dX9_goWay_265 ?_
        refine y_iast dX9_goWay_266 rfl (by decide) (by omega) ?_
        refine z_iload_n dX9_goWay_267 rfl ?_
        refine z_aload_n dX9_goWay_268 rfl ?_
        refine y_getIe dX9_goWay_269 lf_X9_17 rfl rfl ((u2_a (by decide)).trans hM.2.1) ?_
        refine z_iconst (v := nI 1) dX9_goWay_272 rfl ?_
        refine zn_isub dX9_goWay_273 (by omega) ?_
        refine zn_icmp_ne (tgt := 281) dX9_goWay_274 (by decide) (by omega) (by omega) (fun hc274 => ?_) (fun hc274 => by omega)
        refine z_iload_n dX9_goWay_281 rfl ?_
        refine z_iconst (v := nI 1) dX9_goWay_282 rfl ?_
        refine zn_iadd dX9_goWay_283 ?_
        refine z_istore3 dX9_goWay_284 rfl ?_
        refine z_aload_n dX9_goWay_285 rfl ?_
        refine y_getR dX9_goWay_286 lf_X9_60 rfl rfl ?_
        refine z_iconst (v := nI 0) dX9_goWay_289 rfl ?_
        refine z_iload_n dX9_goWay_290 rfl ?_
        refine z_aload_n dX9_goWay_291 rfl ?_
        refine y_getIe dX9_goWay_292 lf_X9_13 rfl rfl ((u2_a (by decide)).trans hM.1) ?_
        refine zn_imul dX9_goWay_295 ?_
        refine z_iload dX9_goWay_296 rfl ?_
        refine zn_iadd dX9_goWay_298 ?_
        refine y_iast dX9_goWay_299 rfl (by decide) (by omega) ?_
        exact y_return dX9_goWay_300 rfl ⟨rfl, rfl, S81_tr S81_u S81_u, by rw [u2_s]; exact nI_e (by simp only [nbc]; first | rfl | (simp [hc257]; done) | (simp [hc257]; omega)), by rw [u2_k (by decide), u2_k (by decide), hx]; simp [gtx, nI_p1], by rw [u2_k (by decide), u2_s]; simp [gtz, shn, hc257, nI_p1]⟩
      · refine z_iconst (v := nI 1) dX9_goWay_260 rfl ?_
        refine z_goto (tgt := 265) dX9_goWay_261 (by decide) ?_
        refine zn_iadd dX9_goWay_265 ?_
        refine y_iast dX9_goWay_266 rfl (by decide) (by omega) ?_
        refine z_iload_n dX9_goWay_267 rfl ?_
        refine z_aload_n dX9_goWay_268 rfl ?_
        refine y_getIe dX9_goWay_269 lf_X9_17 rfl rfl ((u2_a (by decide)).trans hM.2.1) ?_
        refine z_iconst (v := nI 1) dX9_goWay_272 rfl ?_
        refine zn_isub dX9_goWay_273 (by omega) ?_
        refine zn_icmp_ne (tgt := 281) dX9_goWay_274 (by decide) (by omega) (by omega) (fun hc274 => by omega) (fun hc274 => ?_)
        refine z_iconst (v := nI 0) dX9_goWay_277 rfl ?_
        refine z_goto (tgt := 284) dX9_goWay_278 (by decide) ?_
        refine z_istore3 dX9_goWay_284 rfl ?_
        refine z_aload_n dX9_goWay_285 rfl ?_
        refine y_getR dX9_goWay_286 lf_X9_60 rfl rfl ?_
        refine z_iconst (v := nI 0) dX9_goWay_289 rfl ?_
        refine z_iload_n dX9_goWay_290 rfl ?_
        refine z_aload_n dX9_goWay_291 rfl ?_
        refine y_getIe dX9_goWay_292 lf_X9_13 rfl rfl ((u2_a (by decide)).trans hM.1) ?_
        refine zn_imul dX9_goWay_295 ?_
        refine z_iload dX9_goWay_296 rfl ?_
        refine zn_iadd dX9_goWay_298 ?_
        refine y_iast dX9_goWay_299 rfl (by decide) (by omega) ?_
        exact y_return dX9_goWay_300 rfl ⟨rfl, rfl, S81_tr S81_u S81_u, by rw [u2_s]; exact nI_e (by simp only [nbc]; first | rfl | (simp [hc257]; done) | (simp [hc257]; omega)), by rw [u2_k (by decide), u2_k (by decide), hx]; simp [gtx, nI_p1], by rw [u2_k (by decide), u2_s]; simp [gtz, shn, hc257]; exact nI_p2 z⟩
  · obtain rfl | rfl | rfl | rfl : y = 0 ∨ y = 1 ∨ y = 2 ∨ y = 3 := by omega
    · refine z_aload_n dX9_goWay_0 rfl ?_
      refine y_getR dX9_goWay_1 lf_X9_60 rfl rfl ?_
      refine z_iconst (v := nI 0) dX9_goWay_4 rfl ?_
      refine y_ialde dX9_goWay_5 rfl (by decide) (by omega) hc0 ?_
      refine z_aload_n dX9_goWay_6 rfl ?_
      refine y_getIe dX9_goWay_7 lf_X9_13 rfl rfl hM.1 ?_
      refine zn_idiv dX9_goWay_10 (by omega) (by omega) (by omega) ?_
      refine z_istore3 dX9_goWay_11 rfl ?_
      refine z_aload_n dX9_goWay_12 rfl ?_
      refine y_getR dX9_goWay_13 lf_X9_60 rfl rfl ?_
      refine z_iconst (v := nI 0) dX9_goWay_16 rfl ?_
      refine y_ialde dX9_goWay_17 rfl (by decide) (by omega) hc0 ?_
      refine z_aload_n dX9_goWay_18 rfl ?_
      refine y_getIe dX9_goWay_19 lf_X9_13 rfl rfl hM.1 ?_
      refine zn_irem dX9_goWay_22 (by omega) (by omega) (by omega) ?_
      refine z_istore4 dX9_goWay_23 rfl ?_
      refine z_iload_n dX9_goWay_25 rfl ?_
      refine zb_if_eq (tgt := 33) dX9_goWay_26 (by decide) (fun hc26 => ?_) (fun hc26 => by exact Bool.noConfusion hc26)
      refine z_aload_n dX9_goWay_33 rfl ?_
      refine y_getIe dX9_goWay_34 lf_X9_128 rfl rfl hM.2.2.1 ?_
      refine z_istore5 dX9_goWay_37 rfl ?_
      refine z_iload_n dX9_goWay_39 rfl ?_
      refine zn_if_ne (tgt := 121) dX9_goWay_40 (by decide) (by omega) (fun hc40 => by omega) (fun hc40 => ?_)
      refine z_iload dX9_goWay_43 rfl ?_
      refine zn_if_ne (tgt := 52) dX9_goWay_45 (by decide) (by omega) (fun hc45 => ?_) (fun hc45 => ?_)
      · refine z_iconst (v := nI 0) dX9_goWay_52 rfl ?_
        refine z_istore6 dX9_goWay_53 rfl ?_
        refine z_iload dX9_goWay_55 rfl ?_
        refine zn_if_eq (tgt := 77) dX9_goWay_57 (by decide) (by omega) (fun hc57 => ?_) (fun hc57 => by omega)
        refine z_iload_n dX9_goWay_77 rfl ?_
        refine z_istore3 dX9_goWay_78 rfl ?_
        refine z_aload_n dX9_goWay_79 rfl ?_
        refine y_getR dX9_goWay_80 lf_X9_60 rfl rfl ?_
        refine z_iconst (v := nI 1) dX9_goWay_83 rfl ?_
        refine z_dup2 dX9_goWay_84 rfl rfl ?_
        refine y_ialde dX9_goWay_85 rfl (by decide) (by omega) hx ?_
        refine z_iload dX9_goWay_86 rfl ?_
        refine zn_if_eq (tgt := 95) dX9_goWay_88 (by decide) (by omega) (fun hc88 => ?_) (fun hc88 => by omega)
        refine z_iconst (v := nI 0) dX9_goWay_95 rfl ?_
        refine z_isub dX9_goWay_96 ?_
        refine y_iast dX9_goWay_97 rfl (by decide) (by omega) ?_
        refine z_iload dX9_goWay_98 rfl ?_
        refine zn_if_eq (tgt := 112) dX9_goWay_100 (by decide) (by omega) (fun hc100 => ?_) (fun hc100 => by omega)
        refine z_iload dX9_goWay_112 rfl ?_
        refine z_iconst (v := nI 1) dX9_goWay_114 rfl ?_
        refine zn_isub dX9_goWay_115 (by omega) ?_
        refine z_istore4 dX9_goWay_116 rfl ?_
        refine z_goto (tgt := 285) dX9_goWay_118 (by decide) ?_
        refine z_aload_n dX9_goWay_285 rfl ?_
        refine y_getR dX9_goWay_286 lf_X9_60 rfl rfl ?_
        refine z_iconst (v := nI 0) dX9_goWay_289 rfl ?_
        refine z_iload_n dX9_goWay_290 rfl ?_
        refine z_aload_n dX9_goWay_291 rfl ?_
        refine y_getIe dX9_goWay_292 lf_X9_13 rfl rfl ((u2_a (by decide)).trans hM.1) ?_
        refine zn_imul dX9_goWay_295 ?_
        refine z_iload dX9_goWay_296 rfl ?_
        refine zn_iadd dX9_goWay_298 ?_
        refine y_iast dX9_goWay_299 rfl (by decide) (by omega) ?_
        exact y_return dX9_goWay_300 rfl ⟨rfl, rfl, S81_tr S81_u S81_u, by rw [u2_s]; exact nI_e (by simp only [nbc]; first | rfl | (simp [hc45]; done) | (simp [hc45]; omega)), by rw [u2_k (by decide), u2_s]; simp [gtx, shn, hc45, nI_m0], by rw [u2_k (by decide), u2_k (by decide), hz]; simp [gtz, nI_p1]⟩
      · refine z_iconst (v := nI 1) dX9_goWay_48 rfl ?_
        refine z_goto (tgt := 53) dX9_goWay_49 (by decide) ?_
        refine z_istore6 dX9_goWay_53 rfl ?_
        refine z_iload dX9_goWay_55 rfl ?_
        refine zn_if_eq (tgt := 77) dX9_goWay_57 (by decide) (by omega) (fun hc57 => by omega) (fun hc57 => ?_)
        refine z_iload_n dX9_goWay_60 rfl ?_
        refine z_aload_n dX9_goWay_61 rfl ?_
        refine y_getIe dX9_goWay_62 lf_X9_17 rfl rfl hM.2.1 ?_
        refine zn_iadd dX9_goWay_65 ?_
        refine z_iload dX9_goWay_66 rfl ?_
        refine zn_isub dX9_goWay_68 (Nat.le_trans (by omega) (Nat.le_add_left (ph p) (c / pw p))) ?_
        refine z_aload_n dX9_goWay_69 rfl ?_
        refine y_getIe dX9_goWay_70 lf_X9_17 rfl rfl hM.2.1 ?_
        refine zn_irem dX9_goWay_73 (by omega) (by omega) (by omega) ?_
        refine z_goto (tgt := 78) dX9_goWay_74 (by decide) ?_
        refine z_istore3 dX9_goWay_78 rfl ?_
        refine z_aload_n dX9_goWay_79 rfl ?_
        refine y_getR dX9_goWay_80 lf_X9_60 rfl rfl ?_
        refine z_iconst (v := nI 1) dX9_goWay_83 rfl ?_
        refine z_dup2 dX9_goWay_84 rfl rfl ?_
        refine y_ialde dX9_goWay_85 rfl (by decide) (by omega) hx ?_
        refine z_iload dX9_goWay_86 rfl ?_
        refine zn_if_eq (tgt := 95) dX9_goWay_88 (by decide) (by omega) (fun hc88 => by omega) (fun hc88 => ?_)
        refine z_iconst (v := nI 1) dX9_goWay_91 rfl ?_
        refine z_goto (tgt := 96) dX9_goWay_92 (by decide) ?_
        refine z_isub dX9_goWay_96 ?_
        refine y_iast dX9_goWay_97 rfl (by decide) (by omega) ?_
        refine z_iload dX9_goWay_98 rfl ?_
        refine zn_if_eq (tgt := 112) dX9_goWay_100 (by decide) (by omega) (fun hc100 => by omega) (fun hc100 => ?_)
        refine z_aload_n dX9_goWay_103 rfl ?_
        refine y_getIe dX9_goWay_104 lf_X9_13 rfl rfl ((u2_a (by decide)).trans hM.1) ?_
        refine z_iconst (v := nI 1) dX9_goWay_107 rfl ?_
        refine zn_isub dX9_goWay_108 (by omega) ?_
        refine z_goto (tgt := 116) dX9_goWay_109 (by decide) ?_
        refine z_istore4 dX9_goWay_116 rfl ?_
        refine z_goto (tgt := 285) dX9_goWay_118 (by decide) ?_
        refine z_aload_n dX9_goWay_285 rfl ?_
        refine y_getR dX9_goWay_286 lf_X9_60 rfl rfl ?_
        refine z_iconst (v := nI 0) dX9_goWay_289 rfl ?_
        refine z_iload_n dX9_goWay_290 rfl ?_
        refine z_aload_n dX9_goWay_291 rfl ?_
        refine y_getIe dX9_goWay_292 lf_X9_13 rfl rfl ((u2_a (by decide)).trans hM.1) ?_
        refine zn_imul dX9_goWay_295 ?_
        refine z_iload dX9_goWay_296 rfl ?_
        refine zn_iadd dX9_goWay_298 ?_
        refine y_iast dX9_goWay_299 rfl (by decide) (by omega) ?_
        exact y_return dX9_goWay_300 rfl ⟨rfl, rfl, S81_tr S81_u S81_u, by rw [u2_s]; exact nI_e (by simp only [nbc]; first | rfl | (simp [hc45]; done) | (simp [hc45]; omega)), by rw [u2_k (by decide), u2_s]; simp [gtx, shn, hc45]; rfl, by rw [u2_k (by decide), u2_k (by decide), hz]; simp [gtz, nI_p1]⟩
    · refine z_aload_n dX9_goWay_0 rfl ?_
      refine y_getR dX9_goWay_1 lf_X9_60 rfl rfl ?_
      refine z_iconst (v := nI 0) dX9_goWay_4 rfl ?_
      refine y_ialde dX9_goWay_5 rfl (by decide) (by omega) hc0 ?_
      refine z_aload_n dX9_goWay_6 rfl ?_
      refine y_getIe dX9_goWay_7 lf_X9_13 rfl rfl hM.1 ?_
      refine zn_idiv dX9_goWay_10 (by omega) (by omega) (by omega) ?_
      refine z_istore3 dX9_goWay_11 rfl ?_
      refine z_aload_n dX9_goWay_12 rfl ?_
      refine y_getR dX9_goWay_13 lf_X9_60 rfl rfl ?_
      refine z_iconst (v := nI 0) dX9_goWay_16 rfl ?_
      refine y_ialde dX9_goWay_17 rfl (by decide) (by omega) hc0 ?_
      refine z_aload_n dX9_goWay_18 rfl ?_
      refine y_getIe dX9_goWay_19 lf_X9_13 rfl rfl hM.1 ?_
      refine zn_irem dX9_goWay_22 (by omega) (by omega) (by omega) ?_
      refine z_istore4 dX9_goWay_23 rfl ?_
      refine z_iload_n dX9_goWay_25 rfl ?_
      refine zb_if_eq (tgt := 33) dX9_goWay_26 (by decide) (fun hc26 => ?_) (fun hc26 => by exact Bool.noConfusion hc26)
      refine z_aload_n dX9_goWay_33 rfl ?_
      refine y_getIe dX9_goWay_34 lf_X9_128 rfl rfl hM.2.2.1 ?_
      refine z_istore5 dX9_goWay_37 rfl ?_
      refine z_iload_n dX9_goWay_39 rfl ?_
      refine zn_if_ne (tgt := 121) dX9_goWay_40 (by decide) (by omega) (fun hc40 => ?_) (fun hc40 => by omega)
      refine z_iload_n dX9_goWay_121 rfl ?_
      refine z_iconst (v := nI 1) dX9_goWay_122 rfl ?_
      refine zn_icmp_ne (tgt := 200) dX9_goWay_123 (by decide) (by omega) (by omega) (fun hc123 => by omega) (fun hc123 => ?_)
      refine z_iload dX9_goWay_126 rfl ?_
      refine z_aload_n dX9_goWay_128 rfl ?_
      refine y_getIe dX9_goWay_129 lf_X9_13 rfl rfl hM.1 ?_
      refine z_iconst (v := nI 1) dX9_goWay_132 rfl ?_
      refine zn_isub dX9_goWay_133 (by omega) ?_
      refine zn_icmp_ne (tgt := 141) dX9_goWay_134 (by decide) (by omega) (by omega) (fun hc134 => ?_) (fun hc134 => ?_)
      · refine z_iconst (v := nI 0) dX9_goWay_141 rfl ?_
        refine z_istore6 dX9_goWay_142 rfl ?_
        refine z_iload dX9_goWay_144 rfl ?_
        refine zn_if_eq (tgt := 161) dX9_goWay_146 (by decide) (by omega) (fun hc146 => ?_) (fun hc146 => by omega)
        refine z_iload_n dX9_goWay_161 rfl ?_
        refine z_istore3 dX9_goWay_162 rfl ?_
        refine z_aload_n dX9_goWay_163 rfl ?_
        refine y_getR dX9_goWay_164 lf_X9_60 rfl rfl ?_
        refine z_iconst (v := nI 1) dX9_goWay_167 rfl ?_
        refine z_dup2 dX9_goWay_168 rfl rfl ?_
        refine y_ialde dX9_goWay_169 rfl (by decide) (by omega) hx ?_
        refine z_iload dX9_goWay_170 rfl ?_
        refine zn_if_eq (tgt := 179) dX9_goWay_172 (by decide) (by omega) (fun hc172 => ?_) (fun hc172 => by omega)
        refine z_iconst (v := nI 0) dX9_goWay_179 rfl ?_
        refine zn_iadd dX9_goWay_180 ?_
        refine y_iast dX9_goWay_181 rfl (by decide) (by omega) ?_
        refine z_iload dX9_goWay_182 rfl ?_
        refine zn_if_eq (tgt := 191) dX9_goWay_184 (by decide) (by omega) (fun hc184 => ?_) (fun hc184 => by omega)
        refine z_iload dX9_goWay_191 rfl ?_
        refine z_iconst (v := nI 1) dX9_goWay_193 rfl ?_
        refine zn_iadd dX9_goWay_194 ?_
        refine z_istore4 dX9_goWay_195 rfl ?_
        refine z_goto (tgt := 285) dX9_goWay_197 (by decide) ?_
        refine z_aload_n dX9_goWay_285 rfl ?_
        refine y_getR dX9_goWay_286 lf_X9_60 rfl rfl ?_
        refine z_iconst (v := nI 0) dX9_goWay_289 rfl ?_
        refine z_iload_n dX9_goWay_290 rfl ?_
        refine z_aload_n dX9_goWay_291 rfl ?_
        refine y_getIe dX9_goWay_292 lf_X9_13 rfl rfl ((u2_a (by decide)).trans hM.1) ?_
        refine zn_imul dX9_goWay_295 ?_
        refine z_iload dX9_goWay_296 rfl ?_
        refine zn_iadd dX9_goWay_298 ?_
        refine y_iast dX9_goWay_299 rfl (by decide) (by omega) ?_
        exact y_return dX9_goWay_300 rfl ⟨rfl, rfl, S81_tr S81_u S81_u, by rw [u2_s]; exact nI_e (by simp only [nbc]; first | rfl | (simp [hc134]; done) | (simp [hc134]; omega)), by rw [u2_k (by decide), u2_s]; simp [gtx, shn, hc134, nI_p1], by rw [u2_k (by decide), u2_k (by decide), hz]; simp [gtz, nI_p1]⟩
      · refine z_iconst (v := nI 1) dX9_goWay_137 rfl ?_
        refine z_goto (tgt := 142) dX9_goWay_138 (by decide) ?_
        refine z_istore6 dX9_goWay_142 rfl ?_
        refine z_iload dX9_goWay_144 rfl ?_
        refine zn_if_eq (tgt := 161) dX9_goWay_146 (by decide) (by omega) (fun hc146 => by omega) (fun hc146 => ?_)
        refine z_iload_n dX9_goWay_149 rfl ?_
        refine z_iload dX9_goWay_150 rfl ?_
        refine zn_iadd dX9_goWay_152 ?_
        refine z_aload_n dX9_goWay_153 rfl ?_
        refine y_getIe dX9_goWay_154 lf_X9_17 rfl rfl hM.2.1 ?_
        refine zn_irem dX9_goWay_157 (by omega) (by omega) (by omega) ?_
        refine z_goto (tgt := 162) dX9_goWay_158 (by decide) ?_
        refine z_istore3 dX9_goWay_162 rfl ?_
        refine z_aload_n dX9_goWay_163 rfl ?_
        refine y_getR dX9_goWay_164 lf_X9_60 rfl rfl ?_
        refine z_iconst (v := nI 1) dX9_goWay_167 rfl ?_
        refine z_dup2 dX9_goWay_168 rfl rfl ?_
        refine y_ialde dX9_goWay_169 rfl (by decide) (by omega) hx ?_
        refine z_iload dX9_goWay_170 rfl ?_
        refine zn_if_eq (tgt := 179) dX9_goWay_172 (by decide) (by omega) (fun hc172 => by omega) (fun hc172 => ?_)
        refine z_iconst (v := nI 1) dX9_goWay_175 rfl ?_
        refine z_goto (tgt := 180) dX9_goWay_176 (by decide) ?_
        refine zn_iadd dX9_goWay_180 ?_
        refine y_iast dX9_goWay_181 rfl (by decide) (by omega) ?_
        refine z_iload dX9_goWay_182 rfl ?_
        refine zn_if_eq (tgt := 191) dX9_goWay_184 (by decide) (by omega) (fun hc184 => by omega) (fun hc184 => ?_)
        refine z_iconst (v := nI 0) dX9_goWay_187 rfl ?_
        refine z_goto (tgt := 195) dX9_goWay_188 (by decide) ?_
        refine z_istore4 dX9_goWay_195 rfl ?_
        refine z_goto (tgt := 285) dX9_goWay_197 (by decide) ?_
        refine z_aload_n dX9_goWay_285 rfl ?_
        refine y_getR dX9_goWay_286 lf_X9_60 rfl rfl ?_
        refine z_iconst (v := nI 0) dX9_goWay_289 rfl ?_
        refine z_iload_n dX9_goWay_290 rfl ?_
        refine z_aload_n dX9_goWay_291 rfl ?_
        refine y_getIe dX9_goWay_292 lf_X9_13 rfl rfl ((u2_a (by decide)).trans hM.1) ?_
        refine zn_imul dX9_goWay_295 ?_
        refine z_iload dX9_goWay_296 rfl ?_
        refine zn_iadd dX9_goWay_298 ?_
        refine y_iast dX9_goWay_299 rfl (by decide) (by omega) ?_
        exact y_return dX9_goWay_300 rfl ⟨rfl, rfl, S81_tr S81_u S81_u, by rw [u2_s]; exact nI_e (by simp only [nbc]; first | rfl | (simp [hc134]; done) | (simp [hc134]; omega)), by rw [u2_k (by decide), u2_s]; simp [gtx, shn, hc134]; exact nI_p2 x, by rw [u2_k (by decide), u2_k (by decide), hz]; simp [gtz, nI_p1]⟩
    · refine z_aload_n dX9_goWay_0 rfl ?_
      refine y_getR dX9_goWay_1 lf_X9_60 rfl rfl ?_
      refine z_iconst (v := nI 0) dX9_goWay_4 rfl ?_
      refine y_ialde dX9_goWay_5 rfl (by decide) (by omega) hc0 ?_
      refine z_aload_n dX9_goWay_6 rfl ?_
      refine y_getIe dX9_goWay_7 lf_X9_13 rfl rfl hM.1 ?_
      refine zn_idiv dX9_goWay_10 (by omega) (by omega) (by omega) ?_
      refine z_istore3 dX9_goWay_11 rfl ?_
      refine z_aload_n dX9_goWay_12 rfl ?_
      refine y_getR dX9_goWay_13 lf_X9_60 rfl rfl ?_
      refine z_iconst (v := nI 0) dX9_goWay_16 rfl ?_
      refine y_ialde dX9_goWay_17 rfl (by decide) (by omega) hc0 ?_
      refine z_aload_n dX9_goWay_18 rfl ?_
      refine y_getIe dX9_goWay_19 lf_X9_13 rfl rfl hM.1 ?_
      refine zn_irem dX9_goWay_22 (by omega) (by omega) (by omega) ?_
      refine z_istore4 dX9_goWay_23 rfl ?_
      refine z_iload_n dX9_goWay_25 rfl ?_
      refine zb_if_eq (tgt := 33) dX9_goWay_26 (by decide) (fun hc26 => ?_) (fun hc26 => by exact Bool.noConfusion hc26)
      refine z_aload_n dX9_goWay_33 rfl ?_
      refine y_getIe dX9_goWay_34 lf_X9_128 rfl rfl hM.2.2.1 ?_
      refine z_istore5 dX9_goWay_37 rfl ?_
      refine z_iload_n dX9_goWay_39 rfl ?_
      refine zn_if_ne (tgt := 121) dX9_goWay_40 (by decide) (by omega) (fun hc40 => ?_) (fun hc40 => by omega)
      refine z_iload_n dX9_goWay_121 rfl ?_
      refine z_iconst (v := nI 1) dX9_goWay_122 rfl ?_
      refine zn_icmp_ne (tgt := 200) dX9_goWay_123 (by decide) (by omega) (by omega) (fun hc123 => ?_) (fun hc123 => by omega)
      refine z_iload_n dX9_goWay_200 rfl ?_
      refine z_iconst (v := nI 2) dX9_goWay_201 rfl ?_
      refine zn_icmp_ne (tgt := 243) dX9_goWay_202 (by decide) (by omega) (by omega) (fun hc202 => by omega) (fun hc202 => ?_)
      refine z_aload_n dX9_goWay_205 rfl ?_
      refine y_getR dX9_goWay_206 lf_X9_60 rfl rfl ?_
      refine z_iconst (v := nI 2) dX9_goWay_209 rfl ?_
      refine z_dup2 dX9_goWay_210 rfl rfl ?_
      refine y_ialde dX9_goWay_211 rfl (by decide) (by omega) hz ?_
      refine z_iload_n dX9_goWay_212 rfl ?_
      refine zn_if_ne (tgt := 220) dX9_goWay_213 (by decide) (by omega) (fun hc213 => ?_) (fun hc213 => ?_)
      · refine z_iconst (v := nI 0) dX9_goWay_220 rfl ?_
        refine z_isub dX9_goWay_221 ?_
        refine y_iast dX9_goWay_222 rfl (by decide) (by omega) ?_
        refine z_iload_n dX9_goWay_223 rfl ?_
        refine zn_if_ne (tgt := 236) dX9_goWay_224 (by decide) (by omega) (fun hc224 => ?_) (fun hc224 => by omega)
        refine z_iload_n dX9_goWay_236 rfl ?_
        refine z_iconst (v := nI 1) dX9_goWay_237 rfl ?_
        refine zn_isub dX9_goWay_238 (Nat.pos_of_ne_zero hc213) ?_
        refine z_istore3 dX9_goWay_239 rfl ?_
        refine z_goto (tgt := 285) dX9_goWay_240 (by decide) ?_
        refine z_aload_n dX9_goWay_285 rfl ?_
        refine y_getR dX9_goWay_286 lf_X9_60 rfl rfl ?_
        refine z_iconst (v := nI 0) dX9_goWay_289 rfl ?_
        refine z_iload_n dX9_goWay_290 rfl ?_
        refine z_aload_n dX9_goWay_291 rfl ?_
        refine y_getIe dX9_goWay_292 lf_X9_13 rfl rfl ((u2_a (by decide)).trans hM.1) ?_
        refine zn_imul dX9_goWay_295 ?_
        refine z_iload dX9_goWay_296 rfl ?_
        refine zn_iadd dX9_goWay_298 ?_
        refine y_iast dX9_goWay_299 rfl (by decide) (by omega) ?_
        exact y_return dX9_goWay_300 rfl ⟨rfl, rfl, S81_tr S81_u S81_u, by rw [u2_s]; exact nI_e (by simp only [nbc]; first | rfl | (simp [hc213]; done) | (simp [hc213]; omega)), by rw [u2_k (by decide), u2_k (by decide), hx]; simp [gtx, nI_p1], by rw [u2_k (by decide), u2_s]; simp [gtz, shn, hc213, nI_m0]⟩
      · refine z_iconst (v := nI 1) dX9_goWay_216 rfl ?_
        refine z_goto (tgt := 221) dX9_goWay_217 (by decide) ?_
        refine z_isub dX9_goWay_221 ?_
        refine y_iast dX9_goWay_222 rfl (by decide) (by omega) ?_
        refine z_iload_n dX9_goWay_223 rfl ?_
        refine zn_if_ne (tgt := 236) dX9_goWay_224 (by decide) (by omega) (fun hc224 => by omega) (fun hc224 => ?_)
        refine z_aload_n dX9_goWay_227 rfl ?_
        refine y_getIe dX9_goWay_228 lf_X9_17 rfl rfl ((u2_a (by decide)).trans hM.2.1) ?_
        refine z_iconst (v := nI 1) dX9_goWay_231 rfl ?_
        refine zn_isub dX9_goWay_232 (by omega) ?_
        refine z_goto (tgt := 239) dX9_goWay_233 (by decide) ?_
        refine z_istore3 dX9_goWay_239 rfl ?_
        refine z_goto (tgt := 285) dX9_goWay_240 (by decide) ?_
        refine z_aload_n dX9_goWay_285 rfl ?_
        refine y_getR dX9_goWay_286 lf_X9_60 rfl rfl ?_
        refine z_iconst (v := nI 0) dX9_goWay_289 rfl ?_
        refine z_iload_n dX9_goWay_290 rfl ?_
        refine z_aload_n dX9_goWay_291 rfl ?_
        refine y_getIe dX9_goWay_292 lf_X9_13 rfl rfl ((u2_a (by decide)).trans hM.1) ?_
        refine zn_imul dX9_goWay_295 ?_
        refine z_iload dX9_goWay_296 rfl ?_
        refine zn_iadd dX9_goWay_298 ?_
        refine y_iast dX9_goWay_299 rfl (by decide) (by omega) ?_
        exact y_return dX9_goWay_300 rfl ⟨rfl, rfl, S81_tr S81_u S81_u, by rw [u2_s]; exact nI_e (by simp only [nbc]; first | rfl | (simp [hc213]; done) | (simp [hc213]; omega)), by rw [u2_k (by decide), u2_k (by decide), hx]; simp [gtx, nI_p1], by rw [u2_k (by decide), u2_s]; simp [gtz, shn, hc213]; rfl⟩
    · refine z_aload_n dX9_goWay_0 rfl ?_
      refine y_getR dX9_goWay_1 lf_X9_60 rfl rfl ?_
      refine z_iconst (v := nI 0) dX9_goWay_4 rfl ?_
      refine y_ialde dX9_goWay_5 rfl (by decide) (by omega) hc0 ?_
      refine z_aload_n dX9_goWay_6 rfl ?_
      refine y_getIe dX9_goWay_7 lf_X9_13 rfl rfl hM.1 ?_
      refine zn_idiv dX9_goWay_10 (by omega) (by omega) (by omega) ?_
      refine z_istore3 dX9_goWay_11 rfl ?_
      refine z_aload_n dX9_goWay_12 rfl ?_
      refine y_getR dX9_goWay_13 lf_X9_60 rfl rfl ?_
      refine z_iconst (v := nI 0) dX9_goWay_16 rfl ?_
      refine y_ialde dX9_goWay_17 rfl (by decide) (by omega) hc0 ?_
      refine z_aload_n dX9_goWay_18 rfl ?_
      refine y_getIe dX9_goWay_19 lf_X9_13 rfl rfl hM.1 ?_
      refine zn_irem dX9_goWay_22 (by omega) (by omega) (by omega) ?_
      refine z_istore4 dX9_goWay_23 rfl ?_
      refine z_iload_n dX9_goWay_25 rfl ?_
      refine zb_if_eq (tgt := 33) dX9_goWay_26 (by decide) (fun hc26 => ?_) (fun hc26 => by exact Bool.noConfusion hc26)
      refine z_aload_n dX9_goWay_33 rfl ?_
      refine y_getIe dX9_goWay_34 lf_X9_128 rfl rfl hM.2.2.1 ?_
      refine z_istore5 dX9_goWay_37 rfl ?_
      refine z_iload_n dX9_goWay_39 rfl ?_
      refine zn_if_ne (tgt := 121) dX9_goWay_40 (by decide) (by omega) (fun hc40 => ?_) (fun hc40 => by omega)
      refine z_iload_n dX9_goWay_121 rfl ?_
      refine z_iconst (v := nI 1) dX9_goWay_122 rfl ?_
      refine zn_icmp_ne (tgt := 200) dX9_goWay_123 (by decide) (by omega) (by omega) (fun hc123 => ?_) (fun hc123 => by omega)
      refine z_iload_n dX9_goWay_200 rfl ?_
      refine z_iconst (v := nI 2) dX9_goWay_201 rfl ?_
      refine zn_icmp_ne (tgt := 243) dX9_goWay_202 (by decide) (by omega) (by omega) (fun hc202 => ?_) (fun hc202 => by omega)
      refine z_aload_n dX9_goWay_243 rfl ?_
      refine y_getR dX9_goWay_244 lf_X9_60 rfl rfl ?_
      refine z_iconst (v := nI 2) dX9_goWay_247 rfl ?_
      refine z_dup2 dX9_goWay_248 rfl rfl ?_
      refine y_ialde dX9_goWay_249 rfl (by decide) (by omega) hz ?_
      refine z_iload_n dX9_goWay_250 rfl ?_
      refine z_aload_n dX9_goWay_251 rfl ?_
      refine y_getIe dX9_goWay_252 lf_X9_17 rfl rfl hM.2.1 ?_
      refine z_iconst (v := nI 1) dX9_goWay_255 rfl ?_
      refine zn_isub dX9_goWay_256 (by omega) ?_
      refine zn_icmp_ne (tgt := 264) dX9_goWay_257 (by decide) (by omega) (by omega) (fun hc257 => ?_) (fun hc257 => ?_)
      · refine z_iconst (v := nI 0) dX9_goWay_264 rfl ?_
        refine zn_iadd dX9_goWay_265 ?_
        refine y_iast dX9_goWay_266 rfl (by decide) (by omega) ?_
        refine z_iload_n dX9_goWay_267 rfl ?_
        refine z_aload_n dX9_goWay_268 rfl ?_
        refine y_getIe dX9_goWay_269 lf_X9_17 rfl rfl ((u2_a (by decide)).trans hM.2.1) ?_
        refine z_iconst (v := nI 1) dX9_goWay_272 rfl ?_
        refine zn_isub dX9_goWay_273 (by omega) ?_
        refine zn_icmp_ne (tgt := 281) dX9_goWay_274 (by decide) (by omega) (by omega) (fun hc274 => ?_) (fun hc274 => by omega)
        refine z_iload_n dX9_goWay_281 rfl ?_
        refine z_iconst (v := nI 1) dX9_goWay_282 rfl ?_
        refine zn_iadd dX9_goWay_283 ?_
        refine z_istore3 dX9_goWay_284 rfl ?_
        refine z_aload_n dX9_goWay_285 rfl ?_
        refine y_getR dX9_goWay_286 lf_X9_60 rfl rfl ?_
        refine z_iconst (v := nI 0) dX9_goWay_289 rfl ?_
        refine z_iload_n dX9_goWay_290 rfl ?_
        refine z_aload_n dX9_goWay_291 rfl ?_
        refine y_getIe dX9_goWay_292 lf_X9_13 rfl rfl ((u2_a (by decide)).trans hM.1) ?_
        refine zn_imul dX9_goWay_295 ?_
        refine z_iload dX9_goWay_296 rfl ?_
        refine zn_iadd dX9_goWay_298 ?_
        refine y_iast dX9_goWay_299 rfl (by decide) (by omega) ?_
        exact y_return dX9_goWay_300 rfl ⟨rfl, rfl, S81_tr S81_u S81_u, by rw [u2_s]; exact nI_e (by simp only [nbc]; first | rfl | (simp [hc257]; done) | (simp [hc257]; omega)), by rw [u2_k (by decide), u2_k (by decide), hx]; simp [gtx, nI_p1], by rw [u2_k (by decide), u2_s]; simp [gtz, shn, hc257, nI_p1]⟩
      · refine z_iconst (v := nI 1) dX9_goWay_260 rfl ?_
        refine z_goto (tgt := 265) dX9_goWay_261 (by decide) ?_
        refine zn_iadd dX9_goWay_265 ?_
        refine y_iast dX9_goWay_266 rfl (by decide) (by omega) ?_
        refine z_iload_n dX9_goWay_267 rfl ?_
        refine z_aload_n dX9_goWay_268 rfl ?_
        refine y_getIe dX9_goWay_269 lf_X9_17 rfl rfl ((u2_a (by decide)).trans hM.2.1) ?_
        refine z_iconst (v := nI 1) dX9_goWay_272 rfl ?_
        refine zn_isub dX9_goWay_273 (by omega) ?_
        refine zn_icmp_ne (tgt := 281) dX9_goWay_274 (by decide) (by omega) (by omega) (fun hc274 => by omega) (fun hc274 => ?_)
        refine z_iconst (v := nI 0) dX9_goWay_277 rfl ?_
        refine z_goto (tgt := 284) dX9_goWay_278 (by decide) ?_
        refine z_istore3 dX9_goWay_284 rfl ?_
        refine z_aload_n dX9_goWay_285 rfl ?_
        refine y_getR dX9_goWay_286 lf_X9_60 rfl rfl ?_
        refine z_iconst (v := nI 0) dX9_goWay_289 rfl ?_
        refine z_iload_n dX9_goWay_290 rfl ?_
        refine z_aload_n dX9_goWay_291 rfl ?_
        refine y_getIe dX9_goWay_292 lf_X9_13 rfl rfl ((u2_a (by decide)).trans hM.1) ?_
        refine zn_imul dX9_goWay_295 ?_
        refine z_iload dX9_goWay_296 rfl ?_
        refine zn_iadd dX9_goWay_298 ?_
        refine y_iast dX9_goWay_299 rfl (by decide) (by omega) ?_
        exact y_return dX9_goWay_300 rfl ⟨rfl, rfl, S81_tr S81_u S81_u, by rw [u2_s]; exact nI_e (by simp only [nbc]; first | rfl | (simp [hc257]; done) | (simp [hc257]; omega)), by rw [u2_k (by decide), u2_k (by decide), hx]; simp [gtx, nI_p1], by rw [u2_k (by decide), u2_s]; simp [gtz, shn, hc257]; exact nI_p2 z⟩
