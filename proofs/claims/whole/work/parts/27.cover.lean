/-- who hears at a cell, as bits -/
def hrs (p : PT) (P : Nat → Nat) (c : Nat) : Nat := bset (hrb p P c) (pb p)
def rowB (D : Nat → Nat) (f : Nat → Int32) (j : Nat) : Int32 := if j < 32 then nI (D j) else f j
theorem rowB_at {D : Nat → Nat} {f : Nat → Int32} {j : Nat} (h : j < 32) : rowB D f j = nI (D j) := by simp [rowB, h]
theorem rowB_ad {mu : zmu} {D : Nat → Nat} {f : Nat → Int32} {w v x : Nat} (hw : w < 32) (e : x = min (D w) v) : u2 (uR mu 51 (rowB D f)) 51 w (nI x) = uR mu 51 (rowB (adD D w v) f) := by
  funext a j
  unfold u2 uR
  by_cases ha : a = 51
  · rw [if_pos ha, if_pos ha, if_pos ha]
    unfold rowB adD
    by_cases hj : j = w
    · subst hj; simp [hw, e]
    · simp [hj]
  · rw [if_neg ha, if_neg ha, if_neg ha]
theorem hrs_lt {p : PT} (hp : PV p) (P : Nat → Nat) (c : Nat) : hrs p P c < 32 := Nat.lt_of_lt_of_le (bset_lt _ _) (Nat.pow_le_pow_right (n := 2) (by decide) hp.2.2.2.2.2.1)
theorem hmf_lt {p : PT} (hp : PV p) (P : Nat → Nat) : bset (hmf p P) (pb p) < 32 := Nat.lt_of_lt_of_le (bset_lt _ _) (Nat.pow_le_pow_right (n := 2) (by decide) hp.2.2.2.2.2.1)
theorem uR_uR {mu : zmu} {a : Nat} {f g : Nat → Int32} : uR (uR mu a f) a g = uR mu a g := by
  funext x j; unfold uR; by_cases h : x = a <;> simp [h]
set_option maxRecDepth 4000 in
theorem c_hearers_l {X : zX} {mu : zmu} {nu : znu} {p : PT} {P : Nat → Nat} {cut : Nat} (hp : PV p) (hP : PFc p mu) (hS : SFc p P cut 10 mu) (hV : SV p P cut) {c : Nat} (hc : c < pw p * ph p) (d : Nat) : ∀ n i , i + n = pb p → zJ X M_X1_hearers (d + 2) 0 0 5 [.ref 50, .ref 10, .int (nI c), .int (nI (bset (hrb p P c) i)), .int (nI i)] [] 86 (zEE (mu) nu) (zlift (zex (some (.int (nI (hrs p P c)))) (mu) nu)) := by
  intro n
  induction n with
  | zero =>
    intro i  hi
    have h5 := hp.2.2.2.2.2.1
    refine z_iload dX1_hearers_5 rfl ?_
    refine z_aload_n dX1_hearers_7 rfl ?_
    refine y_getR dX1_hearers_8 lf_X1_21 rfl rfl ?_
    refine y_getIe dX1_hearers_11 lf_X1_25 rfl rfl hP.2.2.2.2.1 ?_
    refine zn_icmp_ge (tgt := 40) dX1_hearers_14 (by decide) (by omega) (by omega) (fun hc14 => ?_) (fun hc14 => by omega)
    refine z_iload_n dX1_hearers_40 rfl ?_
    exact y_ireturn dX1_hearers_41 rfl ⟨by rw [show i = pb p by omega]; rfl, rfl, rfl⟩
  | succ n ih =>
    intro i  hi
    have h5 := hp.2.2.2.2.2.1
    refine z_iload dX1_hearers_5 rfl ?_
    refine z_aload_n dX1_hearers_7 rfl ?_
    refine y_getR dX1_hearers_8 lf_X1_21 rfl rfl ?_
    refine y_getIe dX1_hearers_11 lf_X1_25 rfl rfl hP.2.2.2.2.1 ?_
    refine zn_icmp_ge (tgt := 40) dX1_hearers_14 (by decide) (by omega) (by omega) (fun hc14 => by omega) (fun hc14 => ?_)
    refine z_aload_n dX1_hearers_17 rfl ?_
    refine z_iload dX1_hearers_18 rfl ?_
    refine z_iload_n dX1_hearers_20 rfl ?_
    refine y_callV2x (M' := M_X4_doesHear) dX1_hearers_21 lm_X1_51 cv_X4_doesHear rfl (Nat.le_of_ble_eq_true rfl) (Nat.le_of_ble_eq_true rfl) rfl (c_doesHear hp hP sAt10 hS hV (b := i) (by omega) hc d) ?_
    refine zb_if_eq (tgt := 34) dX1_hearers_24 (by decide) (fun hc24 => ?_) (fun hc24 => ?_)
    · refine zn_iinc4 dX1_hearers_34 rfl ?_
      refine z_goto (tgt := 5) dX1_hearers_37 (by decide) ?_
      rw [bset_f (f := hrb p P c) hc24]; exact ih (i + 1) (by omega)
    · refine z_iload_n dX1_hearers_27 rfl ?_
      refine z_iconst (v := nI 1) dX1_hearers_28 rfl ?_
      refine z_iload dX1_hearers_29 rfl ?_
      refine zn_ishl dX1_hearers_31 (by omega) (by have : 1 * 2 ^ i ≤ 1 * 2 ^ 5 := Nat.mul_le_mul_left 1 (Nat.pow_le_pow_right (by decide) (by omega)); omega) ?_
      refine zn_ior dX1_hearers_32 ?_
      refine z_istore3 dX1_hearers_33 rfl ?_
      refine zn_iinc4 dX1_hearers_34 rfl ?_
      refine z_goto (tgt := 5) dX1_hearers_37 (by decide) ?_
      rw [bset_t (f := hrb p P c) hc24]; exact ih (i + 1) (by omega)
set_option maxRecDepth 4000 in
theorem c_hearers {X : zX} {mu : zmu} {nu : znu} {p : PT} {P : Nat → Nat} {cut : Nat} (hp : PV p) (hP : PFc p mu) (hS : SFc p P cut 10 mu) (hV : SV p P cut) {c : Nat} (hc : c < pw p * ph p) (d : Nat) : zJ X M_X1_hearers (d + 2) 0 0 0 [.ref 50, .ref 10, .int (nI c), zu, zu] [] 86 (zEE (mu) nu) (zlift (zex (some (.int (nI (hrs p P c)))) (mu) nu)) := by
  refine z_iconst (v := nI 0) dX1_hearers_0 rfl ?_
  refine z_istore3 dX1_hearers_1 rfl ?_
  refine z_iconst (v := nI 0) dX1_hearers_2 rfl ?_
  refine z_istore4 dX1_hearers_3 rfl ?_
  exact c_hearers_l hp hP hS hV hc d (pb p) 0 (by omega)
set_option maxRecDepth 4000 in
theorem c_addCell_l {X : zX} {mu : zmu} {nu : znu} {hm k : Nat} {hr : Nat → Nat} {f : Nat → Int32} (g1 : hm < 32) (g2 : ∀ c, hr c < 32) (hk : k < 20) (d : Nat) : ∀ n i D, i + n = 32 → DPJ hm hr k i D → zJ X M_X1_addCell (d + 1) 0 0 2 [.ref 50, .int (nI k), .int (nI (hr k)), .int (nI i), zu] [] 86 (zEE (uR mu 51 (rowB D f)) nu) (zlift (fun r mu1 nu1 => r = none ∧ nu1 = nu ∧ ∃ D1, DPI hm hr (k + 1) D1 ∧ mu1 = uR mu 51 (rowB D1 f))) := by
  intro n
  induction n with
  | zero =>
    intro i D hi
    have hpk : 2 ^ k < 2 ^ 20 := Nat.pow_lt_pow_right (by decide) hk
    intro hD
    refine z_iload_n dX1_addCell_2 rfl ?_
    refine z_bipush (v := nI 32) dX1_addCell_3 rfl ?_
    refine zn_icmp_ge (tgt := 60) dX1_addCell_5 (by decide) (by omega) (by omega) (fun hc5 => ?_) (fun hc5 => by omega)
    exact y_return dX1_addCell_60 rfl ⟨rfl, rfl, D, DPJ_end g1 g2 hk (by rw [show i = 32 by omega] at hD; exact hD), rfl⟩
  | succ n ih =>
    intro i D hi
    have hpk : 2 ^ k < 2 ^ 20 := Nat.pow_lt_pow_right (by decide) hk
    intro hD
    have hi32 : i < 32 := by omega
    have hw : i ||| hr k < 32 := Nat.or_lt_two_pow (n := 5) hi32 (g2 k)
    have hDi : D i ≤ INF := by rcases DPJ_lt hk hD hi32 with h | h <;> (unfold INF at *; omega)
    have hDw : D (i ||| hr k) ≤ INF := by rcases DPJ_lt hk hD hw with h | h <;> (unfold INF at *; omega)
    have hI : INF = 1073741824 := rfl
    refine z_iload_n dX1_addCell_2 rfl ?_
    refine z_bipush (v := nI 32) dX1_addCell_3 rfl ?_
    refine zn_icmp_ge (tgt := 60) dX1_addCell_5 (by decide) (by omega) (by omega) (fun hc5 => by omega) (fun hc5 => ?_)
    refine z_aload_n dX1_addCell_8 rfl ?_
    refine y_getR dX1_addCell_9 lf_X1_11 rfl rfl ?_
    refine z_iload_n dX1_addCell_12 rfl ?_
    refine y_ialde dX1_addCell_13 rfl (by decide) (by omega) ((congrFun uR_s i).trans (rowB_at hi32)) ?_
    refine z_ldc (v := nI 1073741824) dX1_addCell_14 lk_X1_31 ?_
    refine zn_icmp_eq (tgt := 54) dX1_addCell_16 (by decide) (by omega) (by omega) (fun hc16 => ?_) (fun hc16 => ?_)
    · refine zn_iinc3 dX1_addCell_54 rfl ?_
      refine z_goto (tgt := 2) dX1_addCell_57 (by decide) ?_
      exact ih (i + 1) D (by omega) (DPJ_skip hk hD hi32 hc16)
    · have hlt : D i < 2 ^ 25 := by rcases DPJ_lt hk hD hi32 with h | h; exact absurd h hc16; exact h
      refine z_iload_n dX1_addCell_19 rfl ?_
      refine z_iload_n dX1_addCell_20 rfl ?_
      refine zn_ior dX1_addCell_21 ?_
      refine z_istore4 dX1_addCell_22 rfl ?_
      refine z_aload_n dX1_addCell_24 rfl ?_
      refine y_getR dX1_addCell_25 lf_X1_11 rfl rfl ?_
      refine z_iload dX1_addCell_28 rfl ?_
      refine z_aload_n dX1_addCell_30 rfl ?_
      refine y_getR dX1_addCell_31 lf_X1_11 rfl rfl ?_
      refine z_iload dX1_addCell_34 rfl ?_
      refine y_ialde dX1_addCell_36 rfl (by decide) hw ((congrFun uR_s (i ||| hr k)).trans (rowB_at hw)) ?_
      refine z_aload_n dX1_addCell_37 rfl ?_
      refine y_getR dX1_addCell_38 lf_X1_11 rfl rfl ?_
      refine z_iload_n dX1_addCell_41 rfl ?_
      refine y_ialde dX1_addCell_42 rfl (by decide) (by omega) ((congrFun uR_s i).trans (rowB_at hi32)) ?_
      refine z_ldc (v := nI 1048576) dX1_addCell_43 lk_X1_44 ?_
      refine zn_iadd dX1_addCell_45 ?_
      refine z_iconst (v := nI 1) dX1_addCell_46 rfl ?_
      refine z_iload_n dX1_addCell_47 rfl ?_
      refine zn_ishl dX1_addCell_48 (by omega) (by omega) ?_
      refine zn_iadd dX1_addCell_49 ?_
      refine z_min dX1_addCell_50 lm_X1_45 st_J9_min_7cf53 ini_RJ9 co_J9_min_7cf53 (Nat.le_of_ble_eq_true rfl) (by omega) ?_
      rw [imin (by omega) (by omega)]
      refine y_iast dX1_addCell_53 rfl (by decide) hw ?_
      rw [rowB_ad (v := D i + (2 ^ 20 + 2 ^ k)) hw (by congr 1; omega)]
      refine zn_iinc3 dX1_addCell_54 rfl ?_
      refine z_goto (tgt := 2) dX1_addCell_57 (by decide) ?_
      exact z_sub (ih (i + 1) _ (by omega) (DPJ_step hk hD hi32 hc16)) ⟨Or.inr rfl, Or.inr rfl, Or.inr rfl, Or.inr rfl, Or.inl rfl, trivial⟩
set_option maxRecDepth 4000 in
theorem c_addCell {X : zX} {mu : zmu} {nu : znu} {hm k : Nat} {hr D : Nat → Nat} {f : Nat → Int32} (g1 : hm < 32) (g2 : ∀ c, hr c < 32) (hk : k < 20) (hD : DPI hm hr k D) (d : Nat) : zJ X M_X1_addCell (d + 1) 0 0 0 [.ref 50, .int (nI k), .int (nI (hr k)), zu, zu] [] 86 (zEE (uR mu 51 (rowB D f)) nu) (zlift (fun r mu1 nu1 => r = none ∧ nu1 = nu ∧ ∃ D1, DPI hm hr (k + 1) D1 ∧ mu1 = uR mu 51 (rowB D1 f))) := by
  refine z_iconst (v := nI 0) dX1_addCell_0 rfl ?_
  refine z_istore3 dX1_addCell_1 rfl ?_
  exact c_addCell_l g1 g2 hk d 32 0 D (by omega) (DPJ_0 hD)
def hmb (p : PT) (P : Nat → Nat) : Nat := bset (hmf p P) (pb p)
theorem hear_self (w h dd c : Nat) : hear w h dd c c = true := by simp [hear]
theorem full_bit (n b : Nat) : (2 ^ n - 1).testBit b = decide (b < n) := Nat.testBit_two_pow_sub_one n b
theorem cv_ex {p : PT} (hp : PV p) {P : Nat → Nat} {cut : Nat} (hV : SV p P cut) : ∃ S, S < 2 ^ (pw p * ph p) ∧ unr (hmb p P) (hrs p P) (pw p * ph p) S = 2 ^ pb p - 1 := by
  refine ⟨2 ^ (pw p * ph p) - 1, Nat.sub_lt (Nat.two_pow_pos _) (by decide), Nat.eq_of_testBit_eq (fun b => ?_)⟩
  rw [full_bit]
  by_cases hb : b < pb p
  · rw [decide_eq_true hb, unr_bit]
    refine Or.inr ⟨P b % 20, (hV.1 b hb).2, by rw [full_bit]; exact decide_eq_true (hV.1 b hb).2, ?_⟩
    rw [hrs, bset_bit]; simp [hb, hrb, hear_self]
  · rw [decide_eq_false hb]
    cases hx : (unr (hmb p P) (hrs p P) (pw p * ph p) (2 ^ (pw p * ph p) - 1)).testBit b with
    | false => rfl
    | true =>
      rw [unr_bit] at hx
      rcases hx with h | ⟨c, _, _, h⟩
      · rw [hmb, bset_bit] at h; simp [hb] at h
      · rw [hrs, bset_bit] at h; simp [hb] at h
def CVb (p : PT) (P : Nat → Nat) (S : Nat) : Prop := cvB (hmb p P) (hrs p P) (pw p * ph p) (2 ^ pb p - 1) S
set_option maxRecDepth 4000 in
theorem c_cellsToCall_l2 {X : zX} {mu : zmu} {nu : znu} {p : PT} {P : Nat → Nat} {cut : Nat} (hp : PV p) (hP : PFc p mu) (hS : SFc p P cut 10 mu) (hV : SV p P cut) {f : Nat → Int32} (d : Nat) : ∀ n i B, i + n = pw p * ph p → DPI (hmb p P) (hrs p P) i B → zJ X M_X1_cellsToCall (d + 3) 0 0 54 [.ref 50, .ref 10, .int (nI (hmb p P)), .int (nI (2 ^ pb p - 1)), .int (nI i)] [] 86 (zEE (uR mu 51 (rowB B f)) nu) (zlift (fun r mu1 nu1 => nu1 = nu ∧ ∃ S f1, CVb p P S ∧ r = some (.int (nI S)) ∧ mu1 = uR mu 51 f1)) := by
  intro n
  induction n with
  | zero =>
    intro i B hi
    have h5 := hp.2.2.2.2.2.1
    have h20 := hp.n20
    have h32 : (2 : Nat) ^ pb p ≤ 2 ^ 5 := Nat.pow_le_pow_right (by decide) h5
    have hpos := Nat.two_pow_pos (pb p)
    have hP1 : PFc p (uR mu 51 (rowB B f)) := PFc_uR hP (by decide)
    have hS1 : SFc p P cut 10 (uR mu 51 (rowB B f)) := SFc_eq hS (uR_a (by decide)) (uR_a (by decide))
    intro hD
    obtain rfl : i = pw p * ph p := by omega
    obtain ⟨S, hcv, hS2⟩ := cvB_of h20 hD (show 2 ^ pb p - 1 < 32 by omega) (cv_ex hp hV)
    refine z_iload dX1_cellsToCall_54 rfl ?_
    refine z_aload_n dX1_cellsToCall_56 rfl ?_
    refine y_getR dX1_cellsToCall_57 lf_X1_21 rfl rfl ?_
    refine y_getIe dX1_cellsToCall_60 lf_X1_32 rfl rfl hP1.2.2.2.1 ?_
    refine zn_icmp_ge (tgt := 85) dX1_cellsToCall_63 (by decide) (by omega) (by omega) (fun hc63 => ?_) (fun hc63 => by omega)
    refine z_aload_n dX1_cellsToCall_85 rfl ?_
    refine y_getR dX1_cellsToCall_86 lf_X1_11 rfl rfl ?_
    refine z_iload_n dX1_cellsToCall_89 rfl ?_
    refine y_ialde dX1_cellsToCall_90 rfl (by decide) (by omega) ((congrFun uR_s _).trans (rowB_at (by omega))) ?_
    refine z_ldc (v := nI 1048575) dX1_cellsToCall_91 lk_X1_43 ?_
    refine zn_iand dX1_cellsToCall_93 ?_
    rw [hS2, key_mod (Nat.lt_of_lt_of_le hcv.1 (Nat.pow_le_pow_right (by decide) h20))]
    exact y_ireturn dX1_cellsToCall_94 rfl ⟨rfl, S, _, hcv, rfl, rfl⟩
  | succ n ih =>
    intro i B hi
    have h5 := hp.2.2.2.2.2.1
    have h20 := hp.n20
    have h32 : (2 : Nat) ^ pb p ≤ 2 ^ 5 := Nat.pow_le_pow_right (by decide) h5
    have hpos := Nat.two_pow_pos (pb p)
    have hP1 : PFc p (uR mu 51 (rowB B f)) := PFc_uR hP (by decide)
    have hS1 : SFc p P cut 10 (uR mu 51 (rowB B f)) := SFc_eq hS (uR_a (by decide)) (uR_a (by decide))
    intro hD
    refine z_iload dX1_cellsToCall_54 rfl ?_
    refine z_aload_n dX1_cellsToCall_56 rfl ?_
    refine y_getR dX1_cellsToCall_57 lf_X1_21 rfl rfl ?_
    refine y_getIe dX1_cellsToCall_60 lf_X1_32 rfl rfl hP1.2.2.2.1 ?_
    refine zn_icmp_ge (tgt := 85) dX1_cellsToCall_63 (by decide) (by omega) (by omega) (fun hc63 => by omega) (fun hc63 => ?_)
    refine z_aload_n dX1_cellsToCall_66 rfl ?_
    refine z_iload dX1_cellsToCall_67 rfl ?_
    refine z_aload_n dX1_cellsToCall_69 rfl ?_
    refine z_aload_n dX1_cellsToCall_70 rfl ?_
    refine z_iload dX1_cellsToCall_71 rfl ?_
    refine y_callV2x (M' := M_X1_hearers) dX1_cellsToCall_73 lm_X1_35 cv_X1_hearers rfl (Nat.le_of_ble_eq_true rfl) (Nat.le_of_ble_eq_true rfl) rfl (c_hearers hp hP1 hS1 hV (c := i) (by omega) d) ?_
    refine y_callV2 (M' := M_X1_addCell) dX1_cellsToCall_76 lm_X1_39 cv_X1_addCell rfl (Nat.le_of_ble_eq_true rfl) (Nat.le_of_ble_eq_true rfl) rfl (c_addCell (hmf_lt hp P) (hrs_lt hp P) (by omega) hD (d + 1)) (fun r mu1 nu1 hq => ?_)
    obtain ⟨rfl, rfl, D1, hD1, rfl⟩ := hq
    refine zn_iinc4 dX1_cellsToCall_79 rfl ?_
    refine z_goto (tgt := 54) dX1_cellsToCall_82 (by decide) ?_
    exact ih (i + 1) D1 (by omega) hD1
set_option maxRecDepth 4000 in
theorem c_cellsToCall_l1 {X : zX} {mu : zmu} {nu : znu} {p : PT} {P : Nat → Nat} {cut : Nat} (hp : PV p) (hP : PFc p mu) (hS : SFc p P cut 10 mu) (hV : SV p P cut) (d : Nat) : ∀ n i , i + n = 32 → zJ X M_X1_cellsToCall (d + 3) 0 0 20 [.ref 50, .ref 10, .int (nI (hmb p P)), .int (nI (2 ^ pb p - 1)), .int (nI i)] [] 86 (zEE (uR mu 51 (fil (fun _ => nI 1073741824) (mu 51) i)) nu) (zlift (fun r mu1 nu1 => nu1 = nu ∧ ∃ S f1, CVb p P S ∧ r = some (.int (nI S)) ∧ mu1 = uR mu 51 f1)) := by
  intro n
  induction n with
  | zero =>
    intro i  hi
    obtain rfl : i = 32 := by omega
    have h5 := hp.2.2.2.2.2.1
    have h32 : (2 : Nat) ^ pb p ≤ 2 ^ 5 := Nat.pow_le_pow_right (by decide) h5
    have hpos := Nat.two_pow_pos (pb p)
    have hml : hmb p P < 2 ^ pb p := bset_lt _ _
    have hand : hmb p P &&& 2 ^ pb p - 1 = hmb p P := Nat.and_two_pow_sub_one_of_lt_two_pow hml
    have e1 : u2 (uR mu 51 (fil (fun _ => nI 1073741824) (mu 51) 32)) 51 (hmb p P) (nI 0) = uR mu 51 (rowB (fun t => if t = hmb p P then 0 else INF) (mu 51)) := by
      funext a j
      unfold u2 uR
      by_cases ha : a = 51
      · rw [if_pos ha, if_pos ha, if_pos ha]
        unfold rowB fil
        by_cases hj : j = hmb p P
        · have : j < 32 := by omega
          simp [hj, this]; omega
        · simp [hj, INF]
      · rw [if_neg ha, if_neg ha, if_neg ha]
    refine z_iload dX1_cellsToCall_20 rfl ?_
    refine z_bipush (v := nI 32) dX1_cellsToCall_22 rfl ?_
    refine zn_icmp_ge (tgt := 42) dX1_cellsToCall_24 (by decide) (by omega) (by omega) (fun hc24 => ?_) (fun hc24 => by omega)
    refine z_aload_n dX1_cellsToCall_42 rfl ?_
    refine y_getR dX1_cellsToCall_43 lf_X1_11 rfl rfl ?_
    refine z_iload_n dX1_cellsToCall_46 rfl ?_
    refine z_iload_n dX1_cellsToCall_47 rfl ?_
    refine zn_iand dX1_cellsToCall_48 ?_
    rw [hand]
    refine z_iconst (v := nI 0) dX1_cellsToCall_49 rfl ?_
    refine y_iast dX1_cellsToCall_50 rfl (by decide) (by omega) ?_
    rw [e1]
    refine z_iconst (v := nI 0) dX1_cellsToCall_51 rfl ?_
    refine z_istore4 dX1_cellsToCall_52 rfl ?_
    exact c_cellsToCall_l2 hp hP hS hV d (pw p * ph p) 0 _ (by omega) (DPI_0 (hmf_lt hp P))
  | succ n ih =>
    intro i  hi
    refine z_iload dX1_cellsToCall_20 rfl ?_
    refine z_bipush (v := nI 32) dX1_cellsToCall_22 rfl ?_
    refine zn_icmp_ge (tgt := 42) dX1_cellsToCall_24 (by decide) (by omega) (by omega) (fun hc24 => by omega) (fun hc24 => ?_)
    refine z_aload_n dX1_cellsToCall_27 rfl ?_
    refine y_getR dX1_cellsToCall_28 lf_X1_11 rfl rfl ?_
    refine z_iload dX1_cellsToCall_31 rfl ?_
    refine z_ldc (v := nI 1073741824) dX1_cellsToCall_33 lk_X1_31 ?_
    refine y_iast dX1_cellsToCall_35 rfl (by decide) (by omega) ?_
    rw [fil_s (g := fun _ => nI 1073741824)]
    refine zn_iinc4 dX1_cellsToCall_36 rfl ?_
    refine z_goto (tgt := 20) dX1_cellsToCall_39 (by decide) ?_
    exact ih (i + 1) (by omega)
set_option maxRecDepth 4000 in
theorem c_cellsToCall {X : zX} {mu : zmu} {nu : znu} {p : PT} {P : Nat → Nat} {cut : Nat} (hp : PV p) (hP : PFc p mu) (hS : SFc p P cut 10 mu) (hV : SV p P cut) (d : Nat) : zJ X M_X1_cellsToCall (d + 3) 0 0 0 [.ref 50, .ref 10, zu, zu, zu] [] 86 (zEE (mu) nu) (zlift (fun r mu1 nu1 => nu1 = nu ∧ ∃ S f1, CVb p P S ∧ r = some (.int (nI S)) ∧ mu1 = uR mu 51 f1)) := by
  have h5 := hp.2.2.2.2.2.1
  have h32 : 1 * (2 : Nat) ^ pb p ≤ 1 * 2 ^ 5 := Nat.mul_le_mul_left 1 (Nat.pow_le_pow_right (by decide) h5)
  have hpos := Nat.two_pow_pos (pb p)
  refine z_aload_n dX1_cellsToCall_0 rfl ?_
  refine y_callV0x (M' := M_X4_whoIsHome) dX1_cellsToCall_1 lm_X1_15 cv_X4_whoIsHome rfl (Nat.le_of_ble_eq_true rfl) (Nat.le_of_ble_eq_true rfl) rfl (c_whoIsHome hp hP sAt10 hS hV d) ?_
  refine z_istore2 dX1_cellsToCall_4 rfl ?_
  refine z_iconst (v := nI 1) dX1_cellsToCall_5 rfl ?_
  refine z_aload_n dX1_cellsToCall_6 rfl ?_
  refine y_getR dX1_cellsToCall_7 lf_X1_21 rfl rfl ?_
  refine y_getIe dX1_cellsToCall_10 lf_X1_25 rfl rfl hP.2.2.2.2.1 ?_
  refine zn_ishl dX1_cellsToCall_13 (by omega) (by omega) ?_
  refine z_iconst (v := nI 1) dX1_cellsToCall_14 rfl ?_
  refine zn_isub dX1_cellsToCall_15 (by omega) ?_
  rw [Nat.one_mul]
  refine z_istore3 dX1_cellsToCall_16 rfl ?_
  refine z_iconst (v := nI 0) dX1_cellsToCall_17 rfl ?_
  refine z_istore4 dX1_cellsToCall_18 rfl ?_
  have k := c_cellsToCall_l1 (X := X) (nu := nu) hp hP hS hV d 32 0 (by omega); rw [fil_0] at k; exact k
