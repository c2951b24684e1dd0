/-- a scene's two cells -/
def sAt (a : Nat) : Prop := zk a = (3, 4, [5, a + 3, 0]) ∧ zk (a + 1) = (0, 5, [])
def PFc (p : PT) (mu : zmu) : Prop := mu 3 0 = nI (pw p) ∧ mu 3 1 = nI (ph p) ∧ mu 3 2 = nI (pd p) ∧ mu 3 3 = nI (pw p * ph p) ∧ mu 3 4 = nI (pb p) ∧ (∀ c, c < pw p * ph p → mu 4 c = nI (pK p c)) ∧ (∀ b, b < pb p → mu 5 b = nI (pH p b) ∧ mu 6 b = nI (pX p b)) ∧
  (∀ c y, c < pw p * ph p → y < 4 → mu 7 (c * 4 + y) = nI (nbc (pw p) (ph p) (pd p) c y) ∧ mu 8 (c * 4 + y) = nI (nbc (pw p) (ph p) 0 c y) ∧ mu 9 (c * 4 + y) = nI (shn (pw p) (ph p) c y) - 1)
def SFc (p : PT) (P : Nat → Nat) (cut a : Nat) (mu : zmu) : Prop := (∀ b, b < pb p → mu (a + 1) b = nI (P b)) ∧ mu a 2 = nI cut
set_option maxRecDepth 4000 in
theorem c_cellOf {X : zX} {mu : zmu} {nu : znu} (p : Nat) (hp : p < 2 ^ 31) (d : Nat) : zJ X M_X8_cellOf d 0 0 0 [.int (nI p)] [] 86 (zEE mu nu) (zlift (zex (some (.int (nI (p % 20)))) (mu) nu)) := by
  refine z_iload_n dX8_cellOf_0 rfl ?_
  refine z_bipush (v := nI 20) dX8_cellOf_1 rfl ?_
  refine zn_irem dX8_cellOf_3 (by omega) (by omega) (by omega) ?_
  exact y_ireturn dX8_cellOf_4 rfl ⟨rfl, rfl, rfl⟩
set_option maxRecDepth 4000 in
theorem c_widthOf {X : zX} {mu : zmu} {nu : znu} (p : Nat) (hp : p < 2 ^ 31) (d : Nat) : zJ X M_X8_widthOf d 0 0 0 [.int (nI p)] [] 86 (zEE mu nu) (zlift (zex (some (.int (nI (p / 20 % 7)))) (mu) nu)) := by
  refine z_iload_n dX8_widthOf_0 rfl ?_
  refine z_bipush (v := nI 20) dX8_widthOf_1 rfl ?_
  refine zn_idiv dX8_widthOf_3 (by omega) (by omega) (by omega) ?_
  refine z_bipush (v := nI 7) dX8_widthOf_4 rfl ?_
  refine zn_irem dX8_widthOf_6 (by omega) (by omega) (by omega) ?_
  exact y_ireturn dX8_widthOf_7 rfl ⟨rfl, rfl, rfl⟩
set_option maxRecDepth 4000 in
theorem c_heightOf {X : zX} {mu : zmu} {nu : znu} (p : Nat) (hp : p < 2 ^ 31) (d : Nat) : zJ X M_X8_heightOf d 0 0 0 [.int (nI p)] [] 86 (zEE mu nu) (zlift (zex (some (.int (nI (p / 140)))) (mu) nu)) := by
  refine z_iload_n dX8_heightOf_0 rfl ?_
  refine z_sipush (v := nI 140) dX8_heightOf_1 rfl ?_
  refine zn_idiv dX8_heightOf_4 (by omega) (by omega) (by omega) ?_
  exact y_ireturn dX8_heightOf_5 rfl ⟨rfl, rfl, rfl⟩
set_option maxRecDepth 4000 in
theorem c_kindAt {X : zX} {mu : zmu} {nu : znu} {p : PT} {a c cut : Nat} (hp : PV p) (hP : PFc p mu) (ha : sAt a) (hc : c < pw p * ph p) (hcut : mu a 2 = nI cut) (hcl : cut < 2 ^ 20) (d : Nat) : zJ X M_X4_kindAt d 0 0 0 [.ref a, .int (nI c)] [] 86 (zEE mu nu) (zlift (zex (some (.int (nI (kdk (pK p) cut c)))) (mu) nu)) := by
  have hm : cut / 2 ^ c % 2 < 2 := Nat.mod_lt _ (by decide)
  have h20 := hp.n20
  have hK := hP.2.2.2.2.2.1 c hc
  refine z_aload_n dX4_kindAt_0 rfl ?_
  refine y_getIe dX4_kindAt_1 lf_X4_19 ha.1 rfl hcut ?_
  refine z_iload_n dX4_kindAt_4 rfl ?_
  refine zn_ishr dX4_kindAt_5 (by omega) (by omega) ?_
  refine z_iconst (v := nI 1) dX4_kindAt_6 rfl ?_
  refine zn_iand dX4_kindAt_7 ?_
  rw [Nat.and_one_is_mod]
  refine zn_if_eq (tgt := 15) dX4_kindAt_8 (by decide) (by omega) (fun hc8 => ?_) (fun hc8 => ?_)
  · refine z_aload_n dX4_kindAt_15 rfl ?_
    refine y_getR dX4_kindAt_16 lf_X4_15 ha.1 rfl ?_
    refine y_getR dX4_kindAt_19 lf_X4_38 rfl rfl ?_
    refine z_iload_n dX4_kindAt_22 rfl ?_
    refine y_ialde dX4_kindAt_23 (by first | rfl | assumption) (by decide) (by omega) hK ?_
    exact y_ireturn dX4_kindAt_24 rfl ⟨by rw [kdk, if_neg (by omega)], rfl, rfl⟩
  · refine z_iconst (v := nI 0) dX4_kindAt_11 rfl ?_
    refine z_goto (tgt := 24) dX4_kindAt_12 (by decide) ?_
    exact y_ireturn dX4_kindAt_24 rfl ⟨by rw [kdk, if_pos (by omega)], rfl, rfl⟩
set_option maxRecDepth 4000 in
theorem c_hasCell {X : zX} {mu : zmu} {nu : znu} {p : PT} (hp : PV p) (hP : PFc p mu) (x : Int32) (d : Nat) : zJ X M_X3_hasCell d 0 0 0 [.ref 3, .int x] [] 86 (zEE mu nu) (zlift (zex (some (.int (b2i (decide (0 ≤ x ∧ x < nI (pw p * ph p)))))) (mu) nu)) := by
  refine z_iload_n dX3_hasCell_0 rfl ?_
  refine z_if_lt (tgt := 16) dX3_hasCell_1 (by decide) (fun hc1 => ?_) (fun hc1 => ?_)
  · refine z_iconst (v := nI 0) dX3_hasCell_16 rfl ?_
    exact y_zreturn dX3_hasCell_17 rfl (by first | exact Or.inl rfl | exact Or.inr rfl | assumption) ⟨by rw [b2i_f]; simp; intro h; exact absurd hc1 (Int32.not_lt.mpr h), rfl, rfl⟩
  · refine z_iload_n dX3_hasCell_4 rfl ?_
    refine z_aload_n dX3_hasCell_5 rfl ?_
    refine y_getIe dX3_hasCell_6 lf_X3_61 rfl rfl hP.2.2.2.1 ?_
    refine z_icmp_ge (tgt := 16) dX3_hasCell_9 (by decide) (fun hc9 => ?_) (fun hc9 => ?_)
    · refine z_iconst (v := nI 0) dX3_hasCell_16 rfl ?_
      exact y_zreturn dX3_hasCell_17 rfl (by first | exact Or.inl rfl | exact Or.inr rfl | assumption) ⟨by rw [b2i_f]; simp; intro _; exact hc9, rfl, rfl⟩
    · refine z_iconst (v := nI 1) dX3_hasCell_12 rfl ?_
      refine z_goto (tgt := 17) dX3_hasCell_13 (by decide) ?_
      exact y_zreturn dX3_hasCell_17 rfl (by first | exact Or.inl rfl | exact Or.inr rfl | assumption) ⟨by rw [b2i_t]; simp; exact ⟨Int32.not_lt.mp hc1, Int32.not_le.mp hc9⟩, rfl, rfl⟩
set_option maxRecDepth 4000 in
theorem c_hasBoy {X : zX} {mu : zmu} {nu : znu} {p : PT} (hp : PV p) (hP : PFc p mu) (x : Int32) (d : Nat) : zJ X M_X3_hasBoy d 0 0 0 [.ref 3, .int x] [] 86 (zEE mu nu) (zlift (zex (some (.int (b2i (decide (0 ≤ x ∧ x < nI (pb p)))))) (mu) nu)) := by
  refine z_iload_n dX3_hasBoy_0 rfl ?_
  refine z_if_lt (tgt := 16) dX3_hasBoy_1 (by decide) (fun hc1 => ?_) (fun hc1 => ?_)
  · refine z_iconst (v := nI 0) dX3_hasBoy_16 rfl ?_
    exact y_zreturn dX3_hasBoy_17 rfl (by first | exact Or.inl rfl | exact Or.inr rfl | assumption) ⟨by rw [b2i_f]; simp; intro h; exact absurd hc1 (Int32.not_lt.mpr h), rfl, rfl⟩
  · refine z_iload_n dX3_hasBoy_4 rfl ?_
    refine z_aload_n dX3_hasBoy_5 rfl ?_
    refine y_getIe dX3_hasBoy_6 lf_X3_59 rfl rfl hP.2.2.2.2.1 ?_
    refine z_icmp_ge (tgt := 16) dX3_hasBoy_9 (by decide) (fun hc9 => ?_) (fun hc9 => ?_)
    · refine z_iconst (v := nI 0) dX3_hasBoy_16 rfl ?_
      exact y_zreturn dX3_hasBoy_17 rfl (by first | exact Or.inl rfl | exact Or.inr rfl | assumption) ⟨by rw [b2i_f]; simp; intro _; exact hc9, rfl, rfl⟩
    · refine z_iconst (v := nI 1) dX3_hasBoy_12 rfl ?_
      refine z_goto (tgt := 17) dX3_hasBoy_13 (by decide) ?_
      exact y_zreturn dX3_hasBoy_17 rfl (by first | exact Or.inl rfl | exact Or.inr rfl | assumption) ⟨by rw [b2i_t]; simp; exact ⟨Int32.not_lt.mp hc1, Int32.not_le.mp hc9⟩, rfl, rfl⟩
set_option maxRecDepth 4000 in
theorem c_isWay {X : zX} {mu : zmu} {nu : znu} (x : Int32) (d : Nat) : zJ X M_X8_isWay d 0 0 0 [.int x] [] 86 (zEE mu nu) (zlift (zex (some (.int (b2i (decide (0 ≤ x ∧ x < nI 4))))) (mu) nu)) := by
  refine z_iload_n dX8_isWay_0 rfl ?_
  refine z_if_lt (tgt := 13) dX8_isWay_1 (by decide) (fun hc1 => ?_) (fun hc1 => ?_)
  · refine z_iconst (v := nI 0) dX8_isWay_13 rfl ?_
    exact y_zreturn dX8_isWay_14 rfl (by first | exact Or.inl rfl | exact Or.inr rfl | assumption) ⟨by rw [b2i_f]; simp; intro h; exact absurd hc1 (Int32.not_lt.mpr h), rfl, rfl⟩
  · refine z_iload_n dX8_isWay_4 rfl ?_
    refine z_iconst (v := nI 4) dX8_isWay_5 rfl ?_
    refine z_icmp_ge (tgt := 13) dX8_isWay_6 (by decide) (fun hc6 => ?_) (fun hc6 => ?_)
    · refine z_iconst (v := nI 0) dX8_isWay_13 rfl ?_
      exact y_zreturn dX8_isWay_14 rfl (by first | exact Or.inl rfl | exact Or.inr rfl | assumption) ⟨by rw [b2i_f]; simp; intro _; exact hc6, rfl, rfl⟩
    · refine z_iconst (v := nI 1) dX8_isWay_9 rfl ?_
      refine z_goto (tgt := 14) dX8_isWay_10 (by decide) ?_
      exact y_zreturn dX8_isWay_14 rfl (by first | exact Or.inl rfl | exact Or.inr rfl | assumption) ⟨by rw [b2i_t]; simp; exact ⟨Int32.not_lt.mp hc1, Int32.not_le.mp hc6⟩, rfl, rfl⟩
set_option maxRecDepth 4000 in
theorem c_goesStraight {X : zX} {mu : zmu} {nu : znu} {p : PT} {b : Nat} (hp : PV p) (hP : PFc p mu) (hb : b < pb p) (d : Nat) : zJ X M_X3_goesStraight d 0 0 0 [.ref 3, .int (nI b)] [] 86 (zEE mu nu) (zlift (zex (some (.int (b2i (pX p b == 3)))) (mu) nu)) := by
  have hX := (hP.2.2.2.2.2.2.1 b hb).2
  have h5 := hp.2.2.2.2.2.1
  have hx3 := (hp.2.2.2.2.2.2.2 b hb).2
  refine z_aload_n dX3_goesStraight_0 rfl ?_
  refine y_getR dX3_goesStraight_1 lf_X3_25 rfl rfl ?_
  refine z_iload_n dX3_goesStraight_4 rfl ?_
  refine y_ialde dX3_goesStraight_5 rfl (by decide) (by omega) hX ?_
  refine z_iconst (v := nI 3) dX3_goesStraight_6 rfl ?_
  refine zn_icmp_ne (tgt := 14) dX3_goesStraight_7 (by decide) (by omega) (by omega) (fun hc7 => ?_) (fun hc7 => ?_)
  · refine z_iconst (v := nI 0) dX3_goesStraight_14 rfl ?_
    exact y_zreturn dX3_goesStraight_15 rfl (by first | exact Or.inl rfl | exact Or.inr rfl | assumption) ⟨by rw [b2i_f]; simpa using hc7, rfl, rfl⟩
  · refine z_iconst (v := nI 1) dX3_goesStraight_10 rfl ?_
    refine z_goto (tgt := 15) dX3_goesStraight_11 (by decide) ?_
    exact y_zreturn dX3_goesStraight_15 rfl (by first | exact Or.inl rfl | exact Or.inr rfl | assumption) ⟨by rw [b2i_t]; simpa using hc7, rfl, rfl⟩
set_option maxRecDepth 4000 in
theorem c_cellBeside {X : zX} {mu : zmu} {nu : znu} {p : PT} {c y : Nat} (hp : PV p) (hP : PFc p mu) (hc : c < pw p * ph p) (hy : y < 4) (s : Bool) (d : Nat) : zJ X M_X3_cellBeside d 0 0 0 [.ref 3, .int (nI c), .int (nI y), .int (b2i s), zu] [] 86 (zEE mu nu) (zlift (zex (some (.int (nI (nbc (pw p) (ph p) (if s = true then 0 else pd p) c y)))) (mu) nu)) := by
  have hB := hP.2.2.2.2.2.2.2 c y hc hy
  have h20 := hp.n20
  cases s
  · rw [show b2i false = nI 0 from rfl]
    refine z_iload_n dX3_cellBeside_0 rfl ?_
    refine z_iconst (v := nI 4) dX3_cellBeside_1 rfl ?_
    refine zn_imul dX3_cellBeside_2 ?_
    refine z_iload_n dX3_cellBeside_3 rfl ?_
    refine zn_iadd dX3_cellBeside_4 ?_
    refine z_istore4 dX3_cellBeside_5 rfl ?_
    refine z_iload_n dX3_cellBeside_7 rfl ?_
    refine zn_if_eq (tgt := 21) dX3_cellBeside_8 (by decide) (by omega) (fun hc8 => ?_) (fun hc8 => by omega)
    refine z_aload_n dX3_cellBeside_21 rfl ?_
    refine y_getR dX3_cellBeside_22 lf_X3_28 rfl rfl ?_
    refine z_iload dX3_cellBeside_25 rfl ?_
    refine y_ialde dX3_cellBeside_27 rfl (by decide) (by omega) hB.1 ?_
    exact y_ireturn dX3_cellBeside_28 rfl ⟨rfl, rfl, rfl⟩
  · rw [show b2i true = nI 1 from rfl]
    refine z_iload_n dX3_cellBeside_0 rfl ?_
    refine z_iconst (v := nI 4) dX3_cellBeside_1 rfl ?_
    refine zn_imul dX3_cellBeside_2 ?_
    refine z_iload_n dX3_cellBeside_3 rfl ?_
    refine zn_iadd dX3_cellBeside_4 ?_
    refine z_istore4 dX3_cellBeside_5 rfl ?_
    refine z_iload_n dX3_cellBeside_7 rfl ?_
    refine zn_if_eq (tgt := 21) dX3_cellBeside_8 (by decide) (by omega) (fun hc8 => by omega) (fun hc8 => ?_)
    refine z_aload_n dX3_cellBeside_11 rfl ?_
    refine y_getR dX3_cellBeside_12 lf_X3_31 rfl rfl ?_
    refine z_iload dX3_cellBeside_15 rfl ?_
    refine y_ialde dX3_cellBeside_17 rfl (by decide) (by omega) hB.2.1 ?_
    refine z_goto (tgt := 28) dX3_cellBeside_18 (by decide) ?_
    exact y_ireturn dX3_cellBeside_28 rfl ⟨rfl, rfl, rfl⟩
set_option maxRecDepth 4000 in
theorem c_rowOn {X : zX} {mu : zmu} {nu : znu} {h r m : Nat} (hh : mu 3 1 = nI h) (h1 : h < 1000) (hr : r < 1000) (hm : m < 1000) (d : Nat) : zJ X M_X3_rowOn d 0 0 0 [.ref 3, .int (nI r), .int (nI m), zu] [] 86 (zEE mu nu) (zlift (zex (some (.int (nI (if r + m < h then r + m else r + m - h)))) (mu) nu)) := by
  refine z_iload_n dX3_rowOn_0 rfl ?_
  refine z_iload_n dX3_rowOn_1 rfl ?_
  refine zn_iadd dX3_rowOn_2 ?_
  refine z_istore3 dX3_rowOn_3 rfl ?_
  refine z_iload_n dX3_rowOn_4 rfl ?_
  refine z_aload_n dX3_rowOn_5 rfl ?_
  refine y_getIe dX3_rowOn_6 lf_X3_15 rfl rfl hh ?_
  refine zn_icmp_lt (tgt := 21) dX3_rowOn_9 (by decide) (by omega) (by omega) (fun hc9 => ?_) (fun hc9 => ?_)
  · refine z_iload_n dX3_rowOn_21 rfl ?_
    exact y_ireturn dX3_rowOn_22 rfl ⟨by rw [if_pos hc9], rfl, rfl⟩
  · refine z_iload_n dX3_rowOn_12 rfl ?_
    refine z_aload_n dX3_rowOn_13 rfl ?_
    refine y_getIe dX3_rowOn_14 lf_X3_15 rfl rfl hh ?_
    refine zn_isub dX3_rowOn_17 (by omega) ?_
    refine z_goto (tgt := 22) dX3_rowOn_18 (by decide) ?_
    exact y_ireturn dX3_rowOn_22 rfl ⟨by rw [if_neg (by omega)], rfl, rfl⟩
set_option maxRecDepth 4000 in
theorem c_canBe {X : zX} {mu : zmu} {nu : znu} {p : PT} {a b c cut : Nat} (hp : PV p) (hP : PFc p mu) (ha : sAt a) (hb : b < pb p) (hc : c < pw p * ph p) (hcut : mu a 2 = nI cut) (hcl : cut < 2 ^ 20) (d : Nat) : zJ X M_X4_canBe (d + 1) 0 0 0 [.ref a, .int (nI b), .int (nI c), zu] [] 86 (zEE mu nu) (zlift (zex (some (.int (b2i (cbe (pX p b) (kdk (pK p) cut c))))) (mu) nu)) := by
  have hX := (hP.2.2.2.2.2.2.1 b hb).2
  have h5 := hp.2.2.2.2.2.1
  have hx3 := (hp.2.2.2.2.2.2.2 b hb).2
  have hk3 := kdk_le hp (cut := cut) hc
  refine z_aload_n dX4_canBe_0 rfl ?_
  refine z_iload_n dX4_canBe_1 rfl ?_
  refine y_callV1x (M' := M_X4_kindAt) dX4_canBe_2 lm_X4_44 cv_X4_kindAt ha.1 (Nat.le_of_ble_eq_true rfl) (Nat.le_of_ble_eq_true rfl) rfl (c_kindAt hp hP ha hc hcut hcl d) ?_
  refine z_istore3 dX4_canBe_5 rfl ?_
  refine z_aload_n dX4_canBe_6 rfl ?_
  refine y_getR dX4_canBe_7 lf_X4_15 ha.1 rfl ?_
  refine y_getR dX4_canBe_10 lf_X4_47 rfl rfl ?_
  refine z_iload_n dX4_canBe_13 rfl ?_
  refine y_ialde dX4_canBe_14 (by first | rfl | assumption) (by decide) (by omega) hX ?_
  obtain h0 | h0 | h0 | h0 : pX p b = 0 ∨ pX p b = 1 ∨ pX p b = 2 ∨ pX p b = 3 := by omega
  · rw [h0]
    refine z_lookup (off := 43) (tgt := 58) dX4_canBe_15 (by decide) (by decide) (by decide) ?_
    refine z_iload_n dX4_canBe_58 rfl ?_
    refine z_iconst (v := nI 1) dX4_canBe_59 rfl ?_
    refine zn_icmp_eq (tgt := 67) dX4_canBe_60 (by decide) (by omega) (by omega) (fun hc60 => ?_) (fun hc60 => ?_)
    · refine z_iconst (v := nI 0) dX4_canBe_67 rfl ?_
      exact y_zreturn dX4_canBe_68 rfl (by first | exact Or.inl rfl | exact Or.inr rfl | assumption) ⟨by simp [cbe, h0, hc60, b2i, nI], rfl, rfl⟩
    · refine z_iconst (v := nI 1) dX4_canBe_63 rfl ?_
      refine z_goto (tgt := 68) dX4_canBe_64 (by decide) ?_
      exact y_zreturn dX4_canBe_68 rfl (by first | exact Or.inl rfl | exact Or.inr rfl | assumption) ⟨by simp [cbe, h0, hc60, b2i, nI], rfl, rfl⟩
  · rw [h0]
    refine z_lookup (off := 25) (tgt := 40) dX4_canBe_15 (by decide) (by decide) (by decide) ?_
    refine z_iconst (v := nI 1) dX4_canBe_40 rfl ?_
    exact y_zreturn dX4_canBe_41 rfl (by first | exact Or.inl rfl | exact Or.inr rfl | assumption) ⟨by simp [cbe, h0, b2i, nI], rfl, rfl⟩
  · rw [h0]
    refine z_lookup (off := 27) (tgt := 42) dX4_canBe_15 (by decide) (by decide) (by decide) ?_
    refine z_iload_n dX4_canBe_42 rfl ?_
    refine z_iconst (v := nI 1) dX4_canBe_43 rfl ?_
    refine zn_icmp_eq (tgt := 56) dX4_canBe_44 (by decide) (by omega) (by omega) (fun hc44 => ?_) (fun hc44 => ?_)
    · refine z_iconst (v := nI 0) dX4_canBe_56 rfl ?_
      exact y_zreturn dX4_canBe_57 rfl (by first | exact Or.inl rfl | exact Or.inr rfl | assumption) ⟨by simp [cbe, h0, hc44, b2i, nI], rfl, rfl⟩
    · refine z_iload_n dX4_canBe_47 rfl ?_
      refine z_iconst (v := nI 2) dX4_canBe_48 rfl ?_
      refine zn_icmp_eq (tgt := 56) dX4_canBe_49 (by decide) (by omega) (by omega) (fun hc49 => ?_) (fun hc49 => ?_)
      · refine z_iconst (v := nI 0) dX4_canBe_56 rfl ?_
        exact y_zreturn dX4_canBe_57 rfl (by first | exact Or.inl rfl | exact Or.inr rfl | assumption) ⟨by simp [cbe, h0, hc49, b2i, nI], rfl, rfl⟩
      · refine z_iconst (v := nI 1) dX4_canBe_52 rfl ?_
        refine z_goto (tgt := 57) dX4_canBe_53 (by decide) ?_
        exact y_zreturn dX4_canBe_57 rfl (by first | exact Or.inl rfl | exact Or.inr rfl | assumption) ⟨by simp [cbe, h0, hc44, hc49, b2i, nI], rfl, rfl⟩
  · rw [h0]
    refine z_lookup (off := 43) (tgt := 58) dX4_canBe_15 (by decide) (by decide) (by decide) ?_
    refine z_iload_n dX4_canBe_58 rfl ?_
    refine z_iconst (v := nI 1) dX4_canBe_59 rfl ?_
    refine zn_icmp_eq (tgt := 67) dX4_canBe_60 (by decide) (by omega) (by omega) (fun hc60 => ?_) (fun hc60 => ?_)
    · refine z_iconst (v := nI 0) dX4_canBe_67 rfl ?_
      exact y_zreturn dX4_canBe_68 rfl (by first | exact Or.inl rfl | exact Or.inr rfl | assumption) ⟨by simp [cbe, h0, hc60, b2i, nI], rfl, rfl⟩
    · refine z_iconst (v := nI 1) dX4_canBe_63 rfl ?_
      refine z_goto (tgt := 68) dX4_canBe_64 (by decide) ?_
      exact y_zreturn dX4_canBe_68 rfl (by first | exact Or.inl rfl | exact Or.inr rfl | assumption) ⟨by simp [cbe, h0, hc60, b2i, nI], rfl, rfl⟩
