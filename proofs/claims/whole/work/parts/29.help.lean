/-- Euclid ends within r rounds -/
def gInv (r g l : Nat) : Prop := l < 2 ^ ((r + 1) / 2) ∧ (l ≠ 0 → g % l < 2 ^ (r / 2))
theorem gInv_s {r g l : Nat} (h : gInv (r + 1) g l) (hl : l ≠ 0) : gInv r l (g % l) := by
  obtain ⟨h1, h2⟩ := h
  have h3 := h2 hl
  refine ⟨h3, fun hm => ?_⟩
  have hml : g % l < l := Nat.mod_lt _ (by omega)
  have hx : l % (g % l) ≤ l / 2 := by
    generalize g % l = m at *
    rcases Nat.lt_or_ge (l / 2) m with g1 | g1
    · have : l % m = l - m := by rw [Nat.mod_eq_sub_mod (by omega), Nat.mod_eq_of_lt (by omega)]
      omega
    · have := Nat.mod_lt l (show 0 < m by omega)
      omega
  have e : (r + 1 + 1) / 2 = r / 2 + 1 := by omega
  rw [e, Nat.pow_succ] at h1
  omega
theorem gInv_0 {g l : Nat} (h : l < 2 ^ 31) : gInv 64 g l := by
  refine ⟨Nat.lt_of_lt_of_le h (Nat.pow_le_pow_right (by decide) (by decide)), fun hl => ?_⟩
  have := Nat.mod_lt g (show 0 < l by omega)
  exact Nat.lt_of_lt_of_le (Nat.lt_trans this h) (Nat.pow_le_pow_right (by decide) (by decide))
theorem gcd_s {g l : Nat} : Nat.gcd l (g % l) = Nat.gcd g l := by
  rw [Nat.gcd_comm l (g % l), ← Nat.gcd_rec, Nat.gcd_comm]
set_option maxRecDepth 4000 in
theorem c_gcd_l {X : zX} {mu : zmu} {nu : znu} {a b : Nat} (d : Nat) : ∀ n i g l, i + n = 64 → gInv n g l → g < 2 ^ 31 → l < 2 ^ 31 → zJ X M_X8_commonDivisor d 0 0 7 [.int (nI a), .int (nI b), .int (nI g), .int (nI l), .int (nI i), zu] [] 86 (zEE (mu) nu) (zlift (zex (some (.int (nI (Nat.gcd g l)))) (mu) nu)) := by
  intro n
  induction n with
  | zero =>
    intro i g l hi
    intro hI hg hl
    obtain rfl : l = 0 := by have := hI.1; simpa using this
    refine z_iload dX8_commonDivisor_7 rfl ?_
    refine z_bipush (v := nI 64) dX8_commonDivisor_9 rfl ?_
    refine zn_icmp_ge (tgt := 34) dX8_commonDivisor_11 (by decide) (by omega) (by omega) (fun hc11 => ?_) (fun hc11 => by omega)
    refine z_iload_n dX8_commonDivisor_34 rfl ?_
    exact y_ireturn dX8_commonDivisor_35 rfl ⟨by rw [Nat.gcd_zero_right], rfl, rfl⟩
  | succ n ih =>
    intro i g l hi
    intro hI hg hl
    refine z_iload dX8_commonDivisor_7 rfl ?_
    refine z_bipush (v := nI 64) dX8_commonDivisor_9 rfl ?_
    refine zn_icmp_ge (tgt := 34) dX8_commonDivisor_11 (by decide) (by omega) (by omega) (fun hc11 => by omega) (fun hc11 => ?_)
    refine z_iload_n dX8_commonDivisor_14 rfl ?_
    refine zn_if_eq (tgt := 34) dX8_commonDivisor_15 (by decide) (by omega) (fun hc15 => ?_) (fun hc15 => ?_)
    · subst hc15
      refine z_iload_n dX8_commonDivisor_34 rfl ?_
      exact y_ireturn dX8_commonDivisor_35 rfl ⟨by rw [Nat.gcd_zero_right], rfl, rfl⟩
    · have hml := Nat.mod_lt g (show 0 < l by omega)
      refine z_iload_n dX8_commonDivisor_18 rfl ?_
      refine z_iload_n dX8_commonDivisor_19 rfl ?_
      refine zn_irem dX8_commonDivisor_20 (by omega) (by omega) (by omega) ?_
      refine z_istore5 dX8_commonDivisor_21 rfl ?_
      refine z_iload_n dX8_commonDivisor_23 rfl ?_
      refine z_istore2 dX8_commonDivisor_24 rfl ?_
      refine z_iload dX8_commonDivisor_25 rfl ?_
      refine z_istore3 dX8_commonDivisor_27 rfl ?_
      refine zn_iinc4 dX8_commonDivisor_28 rfl ?_
      refine z_goto (tgt := 7) dX8_commonDivisor_31 (by decide) ?_
      rw [← gcd_s]; exact z_sub (ih (i + 1) l (g % l) (by omega) (gInv_s hI hc15) hl (by omega)) ⟨Or.inr rfl, Or.inr rfl, Or.inr rfl, Or.inr rfl, Or.inr rfl, Or.inl rfl, trivial⟩
set_option maxRecDepth 4000 in
theorem c_commonDivisor {X : zX} {mu : zmu} {nu : znu} {a b : Nat} (ha : a < 2 ^ 31) (hb : b < 2 ^ 31) (d : Nat) : zJ X M_X8_commonDivisor d 0 0 0 [.int (nI a), .int (nI b), zu, zu, zu, zu] [] 86 (zEE (mu) nu) (zlift (zex (some (.int (nI (Nat.gcd a b)))) (mu) nu)) := by
  refine z_iload_n dX8_commonDivisor_0 rfl ?_
  refine z_istore2 dX8_commonDivisor_1 rfl ?_
  refine z_iload_n dX8_commonDivisor_2 rfl ?_
  refine z_istore3 dX8_commonDivisor_3 rfl ?_
  refine z_iconst (v := nI 0) dX8_commonDivisor_4 rfl ?_
  refine z_istore4 dX8_commonDivisor_5 rfl ?_
  exact c_gcd_l d 64 0 a b (by omega) (gInv_0 hb) ha hb
def frc (a b : Nat) (u : Bool) : Nat := if u = true then a / Nat.gcd a b else b / Nat.gcd a b
theorem gcd_le2 {a b : Nat} (hb : 0 < b) : 1 ≤ Nat.gcd a b ∧ Nat.gcd a b ≤ b := ⟨Nat.gcd_pos_of_pos_right _ hb, Nat.le_of_dvd hb (Nat.gcd_dvd_right _ _)⟩
set_option maxRecDepth 4000 in
theorem c_told {X : zX} {mu : zmu} {nu : znu} {a b : Nat} (ha : a < 2 ^ 31) (hb : b < 2 ^ 31) (h0 : 0 < b) (u : Bool) (d : Nat) : zJ X M_X8_told (d + 1) 0 0 0 [.int (nI a), .int (nI b), .int (b2i u), zu] [] 86 (zEE (mu) nu) (zlift (zex (some (.int (nI (frc a b u)))) (mu) nu)) := by
  have hg := gcd_le2 (a := a) h0
  refine z_iload_n dX8_told_0 rfl ?_
  refine z_iload_n dX8_told_1 rfl ?_
  refine y_callS2x (M' := M_X8_commonDivisor) dX8_told_2 lm_X8_278 cs_X8_commonDivisor (Nat.le_of_ble_eq_true rfl) (Nat.le_of_ble_eq_true rfl) rfl (c_commonDivisor ha hb d) ?_
  refine z_istore3 dX8_told_5 rfl ?_
  refine z_iload_n dX8_told_6 rfl ?_
  refine z_iconst (v := nI 1) dX8_told_7 rfl ?_
  refine zn_icmp_ge (tgt := 13) dX8_told_8 (by decide) (by omega) (by omega) (fun hc8 => ?_) (fun hc8 => by omega)
  refine z_iload_n dX8_told_13 rfl ?_
  refine zb_if_eq (tgt := 23) dX8_told_14 (by decide) (fun hc14 => ?_) (fun hc14 => ?_)
  · refine z_iload_n dX8_told_23 rfl ?_
    refine z_iload_n dX8_told_24 rfl ?_
    refine zn_idiv dX8_told_25 (by omega) (by omega) (by omega) ?_
    exact y_ireturn dX8_told_26 rfl ⟨by simp [frc, hc14], rfl, rfl⟩
  · refine z_iload_n dX8_told_17 rfl ?_
    refine z_iload_n dX8_told_18 rfl ?_
    refine zn_idiv dX8_told_19 (by omega) (by omega) (by omega) ?_
    refine z_goto (tgt := 26) dX8_told_20 (by decide) ?_
    exact y_ireturn dX8_told_26 rfl ⟨by simp [frc, hc14], rfl, rfl⟩
set_option maxRecDepth 4000 in
theorem c_inSight {X : zX} {mu : zmu} {nu : znu} (x : Int32) (d : Nat) : zJ X M_X8_inSight d 0 0 0 [.int x] [] 86 (zEE (mu) nu) (zlift (zex (some (.int (b2i (decide (-4 ≤ x ∧ x ≤ nI 4))))) (mu) nu)) := by
  refine z_iload_n dX8_inSight_0 rfl ?_
  refine z_bipush (v := -4) dX8_inSight_1 rfl ?_
  refine z_icmp_lt (tgt := 15) dX8_inSight_3 (by decide) (fun hc3 => ?_) (fun hc3 => ?_)
  · refine z_iconst (v := nI 0) dX8_inSight_15 rfl ?_
    exact y_zreturn dX8_inSight_16 rfl (by first | exact Or.inl rfl | exact Or.inr rfl | assumption) ⟨by rw [b2i_f]; simp; intro h; exact absurd hc3 (Int32.not_lt.mpr h), rfl, rfl⟩
  · refine z_iload_n dX8_inSight_6 rfl ?_
    refine z_iconst (v := nI 4) dX8_inSight_7 rfl ?_
    refine z_icmp_gt (tgt := 15) dX8_inSight_8 (by decide) (fun hc8 => ?_) (fun hc8 => ?_)
    · refine z_iconst (v := nI 0) dX8_inSight_15 rfl ?_
      exact y_zreturn dX8_inSight_16 rfl (by first | exact Or.inl rfl | exact Or.inr rfl | assumption) ⟨by rw [b2i_f]; simp; intro _; exact hc8, rfl, rfl⟩
    · refine z_iconst (v := nI 1) dX8_inSight_11 rfl ?_
      refine z_goto (tgt := 16) dX8_inSight_12 (by decide) ?_
      exact y_zreturn dX8_inSight_16 rfl (by first | exact Or.inl rfl | exact Or.inr rfl | assumption) ⟨by rw [b2i_t]; simp; exact ⟨Int32.not_lt.mp hc3, Int32.not_lt.mp hc8⟩, rfl, rfl⟩
/-- again: round and round by nb, while ok, up to f more steps -/
def agR (nb : Nat → Nat) (ok : Nat → Bool) (s : Nat) : Nat → Nat → Nat → Option Nat
  | 0, _, _ => none
  | f + 1, c, k => if ok (nb c) = false then none else if nb c = s then some k else agR nb ok s f (nb c) (k + 1)
def agn (p : PT) (cut b s y : Nat) : Option Nat := agR (fun c => nbc (pw p) (ph p) (pdx p (pX p b)) c y) (fun c => cbe (pX p b) (kdk (pK p) cut c)) s 20 s 1
set_option maxRecDepth 4000 in
theorem c_stepsRound_l {X : zX} {mu : zmu} {nu : znu} {p : PT} {P : Nat → Nat} {cut b : Nat} (hp : PV p) (hP : PFc p mu) (hS : SFc p P cut 10 mu) (hV : SV p P cut) (hb : b < pb p) {y : Nat} (hy : y < 4) (d : Nat) : ∀ n i c, i + n = 21 → c < pw p * ph p → zJ X M_X8_stepsRound (d + 2) 0 0 29 [.ref 0, .int (nI b), .int (nI y), .int (nI (P b % 20)), .int (b2i (pX p b == 3)), .int (nI c), .int (nI i)] [] 86 (zEE (mu) nu) (zlift (zex (some (.int (o9 (agR (fun c => nbc (pw p) (ph p) (pdx p (pX p b)) c y) (fun c => cbe (pX p b) (kdk (pK p) cut c)) (P b % 20) n c i)))) (mu) nu)) := by
  intro n
  induction n with
  | zero =>
    intro i c hi
    have h20 := hp.n20
    intro hc
    refine z_iload dX8_stepsRound_29 rfl ?_
    refine z_bipush (v := nI 20) dX8_stepsRound_31 rfl ?_
    refine zn_icmp_gt (tgt := 81) dX8_stepsRound_33 (by decide) (by omega) (by omega) (fun hc33 => ?_) (fun hc33 => by omega)
    refine z_bipush (v := -9) dX8_stepsRound_81 rfl ?_
    exact y_ireturn dX8_stepsRound_83 rfl ⟨rfl, rfl, rfl⟩
  | succ n ih =>
    intro i c hi
    have h20 := hp.n20
    intro hc
    have hn := nbc_lt hp (pdx_lt hp (pX p b)) hc hy
    have hPb := (hV.1 b hb).2
    refine z_iload dX8_stepsRound_29 rfl ?_
    refine z_bipush (v := nI 20) dX8_stepsRound_31 rfl ?_
    refine zn_icmp_gt (tgt := 81) dX8_stepsRound_33 (by decide) (by omega) (by omega) (fun hc33 => by omega) (fun hc33 => ?_)
    refine z_aload_n dX8_stepsRound_36 rfl ?_
    refine y_getR dX8_stepsRound_37 lf_X8_19 rfl rfl ?_
    refine z_iload dX8_stepsRound_40 rfl ?_
    refine z_iload_n dX8_stepsRound_42 rfl ?_
    refine z_iload dX8_stepsRound_43 rfl ?_
    refine y_callV3x (M' := M_X3_cellBeside) dX8_stepsRound_45 lm_X8_135 cv_X3_cellBeside rfl (Nat.le_of_ble_eq_true rfl) (Nat.le_of_ble_eq_true rfl) rfl (c_cellBeside hp hP hc hy (pX p b == 3) (d + 1)) ?_
    rw [pdx_b]
    refine z_istore5 dX8_stepsRound_48 rfl ?_
    refine z_aload_n dX8_stepsRound_50 rfl ?_
    refine y_getR dX8_stepsRound_51 lf_X8_28 rfl rfl ?_
    refine z_iload_n dX8_stepsRound_54 rfl ?_
    refine z_iload dX8_stepsRound_55 rfl ?_
    refine y_callV2x (M' := M_X4_canBe) dX8_stepsRound_57 lm_X8_284 cv_X4_canBe rfl (Nat.le_of_ble_eq_true rfl) (Nat.le_of_ble_eq_true rfl) rfl (c_canBe hp hP sAt10 hb hn hS.2 hV.2 d) ?_
    refine zb_if_ne (tgt := 66) dX8_stepsRound_60 (by decide) (fun hc60 => ?_) (fun hc60 => ?_)
    · refine z_iload dX8_stepsRound_66 rfl ?_
      refine z_iload_n dX8_stepsRound_68 rfl ?_
      refine zn_icmp_ne (tgt := 75) dX8_stepsRound_69 (by decide) (by omega) (by omega) (fun hc69 => ?_) (fun hc69 => ?_)
      · refine zn_iinc6 dX8_stepsRound_75 rfl ?_
        refine z_goto (tgt := 29) dX8_stepsRound_78 (by decide) ?_
        rw [agR, if_neg (by rw [hc60]; decide), if_neg hc69]; exact ih (i + 1) _ (by omega) hn
      · refine z_iload dX8_stepsRound_72 rfl ?_
        exact y_ireturn dX8_stepsRound_74 rfl ⟨by rw [agR, if_neg (by rw [hc60]; decide), if_pos hc69]; rfl, rfl, rfl⟩
    · refine z_bipush (v := -9) dX8_stepsRound_63 rfl ?_
      exact y_ireturn dX8_stepsRound_65 rfl ⟨by rw [agR, if_pos hc60]; rfl, rfl, rfl⟩
set_option maxRecDepth 4000 in
theorem c_stepsRound {X : zX} {mu : zmu} {nu : znu} {p : PT} {P : Nat → Nat} {cut b : Nat} (hp : PV p) (hP : PFc p mu) (hS : SFc p P cut 10 mu) (hV : SV p P cut) (hb : b < pb p) {y : Nat} (hy : y < 4) (d : Nat) : zJ X M_X8_stepsRound (d + 2) 0 0 0 [.ref 0, .int (nI b), .int (nI y), zu, zu, zu, zu] [] 86 (zEE (mu) nu) (zlift (zex (some (.int (o9 (agn p cut b (P b % 20) y)))) (mu) nu)) := by
  have h5 := hp.2.2.2.2.2.1
  have hPb := hV.1 b hb
  refine z_aload_n dX8_stepsRound_0 rfl ?_
  refine y_getR dX8_stepsRound_1 lf_X8_28 rfl rfl ?_
  refine y_getR dX8_stepsRound_4 lf_X8_142 rfl rfl ?_
  refine z_iload_n dX8_stepsRound_7 rfl ?_
  refine y_ialde dX8_stepsRound_8 rfl (by decide) (by omega) (hS.1 b hb) ?_
  refine y_callS1x (M' := M_X8_cellOf) dX8_stepsRound_9 lm_X8_146 cs_X8_cellOf (Nat.le_of_ble_eq_true rfl) (Nat.le_of_ble_eq_true rfl) rfl (c_cellOf (P b) (by omega) (d + 1)) ?_
  refine z_istore3 dX8_stepsRound_12 rfl ?_
  refine z_aload_n dX8_stepsRound_13 rfl ?_
  refine y_getR dX8_stepsRound_14 lf_X8_19 rfl rfl ?_
  refine z_iload_n dX8_stepsRound_17 rfl ?_
  refine y_callV1x (M' := M_X3_goesStraight) dX8_stepsRound_18 lm_X8_281 cv_X3_goesStraight rfl (Nat.le_of_ble_eq_true rfl) (Nat.le_of_ble_eq_true rfl) rfl (c_goesStraight hp hP hb (d + 1)) ?_
  refine z_istore4 dX8_stepsRound_21 rfl ?_
  refine z_iload_n dX8_stepsRound_23 rfl ?_
  refine z_istore5 dX8_stepsRound_24 rfl ?_
  refine z_iconst (v := nI 1) dX8_stepsRound_26 rfl ?_
  refine z_istore6 dX8_stepsRound_27 rfl ?_
  exact c_stepsRound_l hp hP hS hV hb hy d 20 1 _ (by omega) hPb.2
def lks (p : PT) (cut a b y : Nat) : Bool := kdk (pK p) cut (nbc (pw p) (ph p) (pd p) a y) == kdk (pK p) cut (nbc (pw p) (ph p) (pd p) b y)
def lke (p : PT) (cut a b : Nat) : Bool := kdk (pK p) cut a == kdk (pK p) cut b && (lks p cut a b 0 && (lks p cut a b 1 && (lks p cut a b 2 && lks p cut a b 3)))
theorem lke_t {p : PT} {cut a b : Nat} (h0 : kdk (pK p) cut a = kdk (pK p) cut b) (h : ∀ y, y < 4 → lks p cut a b y = true) : lke p cut a b = true := by
  simp [lke, h0, h 0 (by decide), h 1 (by decide), h 2 (by decide), h 3 (by decide)]
theorem lke_f {p : PT} {cut a b y : Nat} (hy : y < 4) (h : lks p cut a b y = false) : lke p cut a b = false := by
  obtain rfl | rfl | rfl | rfl : y = 0 ∨ y = 1 ∨ y = 2 ∨ y = 3 := by omega
  all_goals simp [lke, h]
set_option maxRecDepth 4000 in
theorem c_looksLike_l {X : zX} {mu : zmu} {nu : znu} {p : PT} {P : Nat → Nat} {cut : Nat} (hp : PV p) (hP : PFc p mu) (hS : SFc p P cut 10 mu) (hV : SV p P cut) {a b : Nat} (ha : a < pw p * ph p) (hb : b < pw p * ph p) (h0 : kdk (pK p) cut a = kdk (pK p) cut b) (d : Nat) : ∀ n i , i + n = 4 → (∀ y, y < i → lks p cut a b y = true) → zJ X M_X8_looksLike (d + 1) 0 0 23 [.ref 0, .int (nI a), .int (nI b), .int (nI i), zu] [] 86 (zEE (mu) nu) (zlift (zex (some (.int (b2i (lke p cut a b)))) (mu) nu)) := by
  intro n
  induction n with
  | zero =>
    intro i  hi
    intro hno
    refine z_iload_n dX8_looksLike_23 rfl ?_
    refine z_iconst (v := nI 4) dX8_looksLike_24 rfl ?_
    refine zn_icmp_ge (tgt := 77) dX8_looksLike_25 (by decide) (by omega) (by omega) (fun hc25 => ?_) (fun hc25 => by omega)
    refine z_iconst (v := nI 1) dX8_looksLike_77 rfl ?_
    exact y_zreturn dX8_looksLike_78 rfl (by first | exact Or.inl rfl | exact Or.inr rfl | assumption) ⟨by rw [b2i_t (lke_t h0 (fun y hy => hno y (by omega)))], rfl, rfl⟩
  | succ n ih =>
    intro i  hi
    intro hno
    have n1 := nbc_lt hp hp.2.2.2.2.1 ha (y := i) (by omega)
    have n2 := nbc_lt hp hp.2.2.2.2.1 hb (y := i) (by omega)
    have q1 := kdk_le hp (cut := cut) n1
    have q2 := kdk_le hp (cut := cut) n2
    refine z_iload_n dX8_looksLike_23 rfl ?_
    refine z_iconst (v := nI 4) dX8_looksLike_24 rfl ?_
    refine zn_icmp_ge (tgt := 77) dX8_looksLike_25 (by decide) (by omega) (by omega) (fun hc25 => by omega) (fun hc25 => ?_)
    refine z_aload_n dX8_looksLike_28 rfl ?_
    refine y_getR dX8_looksLike_29 lf_X8_28 rfl rfl ?_
    refine z_aload_n dX8_looksLike_32 rfl ?_
    refine y_getR dX8_looksLike_33 lf_X8_19 rfl rfl ?_
    refine z_iload_n dX8_looksLike_36 rfl ?_
    refine z_iload_n dX8_looksLike_37 rfl ?_
    refine z_iconst (v := nI 0) dX8_looksLike_38 rfl ?_
    refine y_callV3x (M' := M_X3_cellBeside) dX8_looksLike_39 lm_X8_135 cv_X3_cellBeside rfl (Nat.le_of_ble_eq_true rfl) (Nat.le_of_ble_eq_true rfl) rfl (c_cellBeside (y := i) hp hP ha (by omega) false d) ?_
    refine y_callV1x (M' := M_X4_kindAt) dX8_looksLike_42 lm_X8_129 cv_X4_kindAt rfl (Nat.le_of_ble_eq_true rfl) (Nat.le_of_ble_eq_true rfl) rfl (c_kindAt hp hP sAt10 n1 hS.2 hV.2 d) ?_
    refine z_istore4 dX8_looksLike_45 rfl ?_
    refine z_iload dX8_looksLike_47 rfl ?_
    refine z_aload_n dX8_looksLike_49 rfl ?_
    refine y_getR dX8_looksLike_50 lf_X8_28 rfl rfl ?_
    refine z_aload_n dX8_looksLike_53 rfl ?_
    refine y_getR dX8_looksLike_54 lf_X8_19 rfl rfl ?_
    refine z_iload_n dX8_looksLike_57 rfl ?_
    refine z_iload_n dX8_looksLike_58 rfl ?_
    refine z_iconst (v := nI 0) dX8_looksLike_59 rfl ?_
    refine y_callV3x (M' := M_X3_cellBeside) dX8_looksLike_60 lm_X8_135 cv_X3_cellBeside rfl (Nat.le_of_ble_eq_true rfl) (Nat.le_of_ble_eq_true rfl) rfl (c_cellBeside (y := i) hp hP hb (by omega) false d) ?_
    refine y_callV1x (M' := M_X4_kindAt) dX8_looksLike_63 lm_X8_129 cv_X4_kindAt rfl (Nat.le_of_ble_eq_true rfl) (Nat.le_of_ble_eq_true rfl) rfl (c_kindAt hp hP sAt10 n2 hS.2 hV.2 d) ?_
    refine zn_icmp_eq (tgt := 71) dX8_looksLike_66 (by decide) (by omega) (by omega) (fun hc66 => ?_) (fun hc66 => ?_)
    · refine zn_iinc3 dX8_looksLike_71 rfl ?_
      refine z_goto (tgt := 23) dX8_looksLike_74 (by decide) ?_
      exact z_sub (ih (i + 1) (by omega) (fun y hy => by rcases Nat.lt_or_ge y i with g | g; exact hno y g; rw [show y = i by omega]; simpa [lks] using hc66)) ⟨Or.inr rfl, Or.inr rfl, Or.inr rfl, Or.inr rfl, Or.inl rfl, trivial⟩
    · refine z_iconst (v := nI 0) dX8_looksLike_69 rfl ?_
      exact y_zreturn dX8_looksLike_70 rfl (by first | exact Or.inl rfl | exact Or.inr rfl | assumption) ⟨by rw [b2i_f (lke_f (y := i) (by omega) (by simpa [lks] using hc66))], rfl, rfl⟩
set_option maxRecDepth 4000 in
theorem c_looksLike {X : zX} {mu : zmu} {nu : znu} {p : PT} {P : Nat → Nat} {cut : Nat} (hp : PV p) (hP : PFc p mu) (hS : SFc p P cut 10 mu) (hV : SV p P cut) {a b : Nat} (ha : a < pw p * ph p) (hb : b < pw p * ph p) (d : Nat) : zJ X M_X8_looksLike (d + 1) 0 0 0 [.ref 0, .int (nI a), .int (nI b), zu, zu] [] 86 (zEE (mu) nu) (zlift (zex (some (.int (b2i (lke p cut a b)))) (mu) nu)) := by
  have q1 := kdk_le hp (cut := cut) ha
  have q2 := kdk_le hp (cut := cut) hb
  refine z_aload_n dX8_looksLike_0 rfl ?_
  refine y_getR dX8_looksLike_1 lf_X8_28 rfl rfl ?_
  refine z_iload_n dX8_looksLike_4 rfl ?_
  refine y_callV1x (M' := M_X4_kindAt) dX8_looksLike_5 lm_X8_129 cv_X4_kindAt rfl (Nat.le_of_ble_eq_true rfl) (Nat.le_of_ble_eq_true rfl) rfl (c_kindAt hp hP sAt10 ha hS.2 hV.2 d) ?_
  refine z_aload_n dX8_looksLike_8 rfl ?_
  refine y_getR dX8_looksLike_9 lf_X8_28 rfl rfl ?_
  refine z_iload_n dX8_looksLike_12 rfl ?_
  refine y_callV1x (M' := M_X4_kindAt) dX8_looksLike_13 lm_X8_129 cv_X4_kindAt rfl (Nat.le_of_ble_eq_true rfl) (Nat.le_of_ble_eq_true rfl) rfl (c_kindAt hp hP sAt10 hb hS.2 hV.2 d) ?_
  refine zn_icmp_eq (tgt := 21) dX8_looksLike_16 (by decide) (by omega) (by omega) (fun hc16 => ?_) (fun hc16 => ?_)
  · refine z_iconst (v := nI 0) dX8_looksLike_21 rfl ?_
    refine z_istore3 dX8_looksLike_22 rfl ?_
    exact c_looksLike_l hp hP hS hV ha hb hc16 d 4 0 (by omega) (fun y hy => by omega)
  · refine z_iconst (v := nI 0) dX8_looksLike_19 rfl ?_
    exact y_zreturn dX8_looksLike_20 rfl (by first | exact Or.inl rfl | exact Or.inr rfl | assumption) ⟨by rw [b2i_f (by simp [lke, hc16])], rfl, rfl⟩
/-- is row r unlike at the join, by a drop of dd -/
def ulr (p : PT) (cut dd r : Nat) : Bool := !(kdk (pK p) cut (r * pw p + pw p - 1) == kdk (pK p) cut ((r + dd) % ph p * pw p))
def unl (p : PT) (cut dd : Nat) : Nat := bcnt (ulr p cut dd) (ph p)
theorem row_try : tryN 6 (fun w => tryN 5 fun h => tryN 5 fun dd => tryN 4 fun r => !(decide (2 ≤ w) && decide (2 ≤ h) && decide (dd < h) && decide (r < h)) || (decide (r * w + w - 1 < w * h) && decide ((r + dd) % h * w < w * h) && ((if r + dd < h then r + dd else r + dd - h) == (r + dd) % h))) = true := by decide +kernel
theorem row_at {p : PT} (hp : PV p) {dd r : Nat} (hd : dd < ph p) (hr : r < ph p) : r * pw p + pw p - 1 < pw p * ph p ∧ (r + dd) % ph p * pw p < pw p * ph p ∧ (if r + dd < ph p then r + dd else r + dd - ph p) = (r + dd) % ph p := by
  obtain ⟨h1, h2, h3, h4, -⟩ := hp
  have := tryN_at (tryN_at (tryN_at (tryN_at row_try (i := pw p) (by omega)) (i := ph p) (by omega)) (i := dd) (by omega)) (i := r) (by omega)
  simp only [h1, h3, hd, hr, decide_true, Bool.and_true, Bool.not_true, Bool.false_or, Bool.and_eq_true, decide_eq_true_eq, beq_iff_eq] at this
  exact ⟨this.1.1, this.1.2, this.2⟩
set_option maxRecDepth 4000 in
theorem c_unlikeRows_l {X : zX} {mu : zmu} {nu : znu} {p : PT} {P : Nat → Nat} {cut : Nat} (hp : PV p) (hP : PFc p mu) (hS : SFc p P cut 10 mu) (hV : SV p P cut) {dd : Nat} (hd : dd < ph p) (d : Nat) : ∀ n i , i + n = ph p → zJ X M_X8_unlikeRows (d + 1) 0 0 4 [.ref 0, .int (nI dd), .int (nI (bcnt (ulr p cut dd) i)), .int (nI i), zu, zu] [] 86 (zEE (mu) nu) (zlift (zex (some (.int (nI (unl p cut dd)))) (mu) nu)) := by
  intro n
  induction n with
  | zero =>
    intro i  hi
    have h4 := hp.2.2.2.1
    have h2 := hp.1
    have h22 := hp.2.1
    refine z_iload_n dX8_unlikeRows_4 rfl ?_
    refine z_aload_n dX8_unlikeRows_5 rfl ?_
    refine y_getR dX8_unlikeRows_6 lf_X8_19 rfl rfl ?_
    refine y_getIe dX8_unlikeRows_9 lf_X8_106 rfl rfl hP.2.1 ?_
    refine zn_icmp_ge (tgt := 85) dX8_unlikeRows_12 (by decide) (by omega) (by omega) (fun hc12 => ?_) (fun hc12 => by omega)
    refine z_iload_n dX8_unlikeRows_85 rfl ?_
    exact y_ireturn dX8_unlikeRows_86 rfl ⟨by rw [show i = ph p by omega]; rfl, rfl, rfl⟩
  | succ n ih =>
    intro i  hi
    have h4 := hp.2.2.2.1
    have h2 := hp.1
    have h22 := hp.2.1
    obtain ⟨r1, r2, r3⟩ := row_at hp hd (r := i) (by omega)
    have q1 := kdk_le hp (cut := cut) r1
    have q2 := kdk_le hp (cut := cut) r2
    refine z_iload_n dX8_unlikeRows_4 rfl ?_
    refine z_aload_n dX8_unlikeRows_5 rfl ?_
    refine y_getR dX8_unlikeRows_6 lf_X8_19 rfl rfl ?_
    refine y_getIe dX8_unlikeRows_9 lf_X8_106 rfl rfl hP.2.1 ?_
    refine zn_icmp_ge (tgt := 85) dX8_unlikeRows_12 (by decide) (by omega) (by omega) (fun hc12 => by omega) (fun hc12 => ?_)
    refine z_iload_n dX8_unlikeRows_15 rfl ?_
    refine z_aload_n dX8_unlikeRows_16 rfl ?_
    refine y_getR dX8_unlikeRows_17 lf_X8_19 rfl rfl ?_
    refine y_getIe dX8_unlikeRows_20 lf_X8_103 rfl rfl hP.1 ?_
    refine zn_imul dX8_unlikeRows_23 ?_
    refine z_aload_n dX8_unlikeRows_24 rfl ?_
    refine y_getR dX8_unlikeRows_25 lf_X8_19 rfl rfl ?_
    refine y_getIe dX8_unlikeRows_28 lf_X8_103 rfl rfl hP.1 ?_
    refine zn_iadd dX8_unlikeRows_31 ?_
    refine z_iconst (v := nI 1) dX8_unlikeRows_32 rfl ?_
    refine zn_isub dX8_unlikeRows_33 (by omega) ?_
    refine z_istore4 dX8_unlikeRows_34 rfl ?_
    refine z_aload_n dX8_unlikeRows_36 rfl ?_
    refine y_getR dX8_unlikeRows_37 lf_X8_19 rfl rfl ?_
    refine z_iload_n dX8_unlikeRows_40 rfl ?_
    refine z_iload_n dX8_unlikeRows_41 rfl ?_
    refine y_callV2x (M' := M_X3_rowOn) dX8_unlikeRows_42 lm_X8_287 cv_X3_rowOn rfl (Nat.le_of_ble_eq_true rfl) (Nat.le_of_ble_eq_true rfl) rfl (c_rowOn hP.2.1 (by omega) (by omega) (by omega) d) ?_
    rw [r3]
    refine z_aload_n dX8_unlikeRows_45 rfl ?_
    refine y_getR dX8_unlikeRows_46 lf_X8_19 rfl rfl ?_
    refine y_getIe dX8_unlikeRows_49 lf_X8_103 rfl rfl hP.1 ?_
    refine zn_imul dX8_unlikeRows_52 ?_
    refine z_istore5 dX8_unlikeRows_53 rfl ?_
    refine z_aload_n dX8_unlikeRows_55 rfl ?_
    refine y_getR dX8_unlikeRows_56 lf_X8_28 rfl rfl ?_
    refine z_iload dX8_unlikeRows_59 rfl ?_
    refine y_callV1x (M' := M_X4_kindAt) dX8_unlikeRows_61 lm_X8_129 cv_X4_kindAt rfl (Nat.le_of_ble_eq_true rfl) (Nat.le_of_ble_eq_true rfl) rfl (c_kindAt hp hP sAt10 r1 hS.2 hV.2 d) ?_
    refine z_aload_n dX8_unlikeRows_64 rfl ?_
    refine y_getR dX8_unlikeRows_65 lf_X8_28 rfl rfl ?_
    refine z_iload dX8_unlikeRows_68 rfl ?_
    refine y_callV1x (M' := M_X4_kindAt) dX8_unlikeRows_70 lm_X8_129 cv_X4_kindAt rfl (Nat.le_of_ble_eq_true rfl) (Nat.le_of_ble_eq_true rfl) rfl (c_kindAt hp hP sAt10 r2 hS.2 hV.2 d) ?_
    refine zn_icmp_eq (tgt := 79) dX8_unlikeRows_73 (by decide) (by omega) (by omega) (fun hc73 => ?_) (fun hc73 => ?_)
    · have hf : ulr p cut dd i = false := by simp [ulr, hc73]
      refine zn_iinc3 dX8_unlikeRows_79 rfl ?_
      refine z_goto (tgt := 4) dX8_unlikeRows_82 (by decide) ?_
      rw [show bcnt (ulr p cut dd) i = bcnt (ulr p cut dd) (i + 1) by rw [bcnt_s, hf]; rfl]; exact z_sub (ih (i + 1) (by omega)) ⟨Or.inr rfl, Or.inr rfl, Or.inr rfl, Or.inr rfl, Or.inl rfl, Or.inl rfl, trivial⟩
    · have hf : ulr p cut dd i = true := by simp [ulr, hc73]
      refine zn_iinc2 dX8_unlikeRows_76 rfl ?_
      refine zn_iinc3 dX8_unlikeRows_79 rfl ?_
      refine z_goto (tgt := 4) dX8_unlikeRows_82 (by decide) ?_
      rw [show bcnt (ulr p cut dd) i + 1 = bcnt (ulr p cut dd) (i + 1) by rw [bcnt_s, hf]; rfl]; exact z_sub (ih (i + 1) (by omega)) ⟨Or.inr rfl, Or.inr rfl, Or.inr rfl, Or.inr rfl, Or.inl rfl, Or.inl rfl, trivial⟩
set_option maxRecDepth 4000 in
theorem c_unlikeRows {X : zX} {mu : zmu} {nu : znu} {p : PT} {P : Nat → Nat} {cut : Nat} (hp : PV p) (hP : PFc p mu) (hS : SFc p P cut 10 mu) (hV : SV p P cut) {dd : Nat} (hd : dd < ph p) (d : Nat) : zJ X M_X8_unlikeRows (d + 1) 0 0 0 [.ref 0, .int (nI dd), zu, zu, zu, zu] [] 86 (zEE (mu) nu) (zlift (zex (some (.int (nI (unl p cut dd)))) (mu) nu)) := by
  refine z_iconst (v := nI 0) dX8_unlikeRows_0 rfl ?_
  refine z_istore2 dX8_unlikeRows_1 rfl ?_
  refine z_iconst (v := nI 0) dX8_unlikeRows_2 rfl ?_
  refine z_istore3 dX8_unlikeRows_3 rfl ?_
  exact c_unlikeRows_l hp hP hS hV hd d (ph p) 0 (by omega)
/-- what one has by way y, the other by way z -/
def wth (a c c2 : Nat → Nat) (y z : Nat) : Nat := a y + if c y = c2 z then 3 else 0
def rst1 (a c a2 c2 : Nat → Nat) (y z i : Nat) : Bool := decide (wth a c c2 i z ≤ wth a c c2 y z) && decide (wth a2 c2 c i y ≤ wth a2 c2 c z y)
def rst (a c a2 c2 : Nat → Nat) (y z : Nat) : Bool := rst1 a c a2 c2 y z 0 && (rst1 a c a2 c2 y z 1 && (rst1 a c a2 c2 y z 2 && rst1 a c a2 c2 y z 3))
theorem rst_t {a c a2 c2 : Nat → Nat} {y z : Nat} (h : ∀ i, i < 4 → rst1 a c a2 c2 y z i = true) : rst a c a2 c2 y z = true := by
  simp [rst, h 0 (by decide), h 1 (by decide), h 2 (by decide), h 3 (by decide)]
theorem rst_f {a c a2 c2 : Nat → Nat} {y z i : Nat} (hi : i < 4) (h : rst1 a c a2 c2 y z i = false) : rst a c a2 c2 y z = false := by
  obtain rfl | rfl | rfl | rfl : i = 0 ∨ i = 1 ∨ i = 2 ∨ i = 3 := by omega
  all_goals simp [rst, h]
def GF (a c a2 c2 : Nat → Nat) (mu : zmu) : Prop := ∀ y, y < 4 → mu 57 y = nI (c y) ∧ mu 58 y = nI (a y) ∧ mu 60 y = nI (c2 y) ∧ mu 61 y = nI (a2 y) ∧ c y < 20 ∧ c2 y < 20 ∧ a y ≤ 2 ∧ a2 y ≤ 2
theorem wth_le {a c c2 : Nat → Nat} {y z : Nat} (h : a y ≤ 2) : wth a c c2 y z ≤ 5 := by unfold wth; split <;> omega
set_option maxRecDepth 4000 in
theorem c_isRest_l {X : zX} {mu : zmu} {nu : znu} {a c a2 c2 : Nat → Nat} (hG : GF a c a2 c2 mu) {y z : Nat} (hy : y < 4) (hz : z < 4) (d : Nat) : ∀ n i , i + n = 4 → (∀ j, j < i → rst1 a c a2 c2 y z j = true) → zJ X M_X8_isRest (d + 1) 0 0 32 [.ref 0, .int (nI y), .int (nI z), .int (nI (wth a c c2 y z)), .int (nI (wth a2 c2 c z y)), .int (nI i)] [] 86 (zEE (mu) nu) (zlift (zex (some (.int (b2i (rst a c a2 c2 y z)))) (mu) nu)) := by
  intro n
  induction n with
  | zero =>
    intro i  hi
    intro hno
    refine z_iload dX8_isRest_32 rfl ?_
    refine z_iconst (v := nI 4) dX8_isRest_34 rfl ?_
    refine zn_icmp_ge (tgt := 83) dX8_isRest_35 (by decide) (by omega) (by omega) (fun hc35 => ?_) (fun hc35 => by omega)
    refine z_iconst (v := nI 1) dX8_isRest_83 rfl ?_
    exact y_zreturn dX8_isRest_84 rfl (by first | exact Or.inl rfl | exact Or.inr rfl | assumption) ⟨by rw [b2i_t (rst_t (fun j hj => hno j (by omega)))], rfl, rfl⟩
  | succ n ih =>
    intro i  hi
    intro hno
    have l1 : wth a c c2 i z ≤ 5 := wth_le (hG i (by omega)).2.2.2.2.2.2.1
    have l2 : wth a2 c2 c i y ≤ 5 := wth_le (hG i (by omega)).2.2.2.2.2.2.2
    have l3 : wth a c c2 y z ≤ 5 := wth_le (hG y (by omega)).2.2.2.2.2.2.1
    have l4 : wth a2 c2 c z y ≤ 5 := wth_le (hG z (by omega)).2.2.2.2.2.2.2
    refine z_iload dX8_isRest_32 rfl ?_
    refine z_iconst (v := nI 4) dX8_isRest_34 rfl ?_
    refine zn_icmp_ge (tgt := 83) dX8_isRest_35 (by decide) (by omega) (by omega) (fun hc35 => by omega) (fun hc35 => ?_)
    refine z_aload_n dX8_isRest_38 rfl ?_
    refine y_getR dX8_isRest_39 lf_X8_74 rfl rfl ?_
    refine z_iload dX8_isRest_42 rfl ?_
    refine z_aload_n dX8_isRest_44 rfl ?_
    refine y_getR dX8_isRest_45 lf_X8_78 rfl rfl ?_
    refine z_iload_n dX8_isRest_48 rfl ?_
    refine y_callV3x (M' := M_X2_worth) dX8_isRest_49 lm_X8_293 cv_X2_worth rfl (Nat.le_of_ble_eq_true rfl) (Nat.le_of_ble_eq_true rfl) rfl (c_worth56 (y := i) (y2 := z) (by omega) (by omega) (hG i (by omega)).2.1 (hG i (by omega)).1 (hG z (by omega)).2.2.1 (by have := (hG i (by omega)).2.2.2.2.1; omega) (by have := (hG z (by omega)).2.2.2.2.2.1; omega) d) ?_
    rw [show a i + (if c i = c2 z then 3 else 0) = wth a c c2 i z from rfl]
    refine z_iload_n dX8_isRest_52 rfl ?_
    refine zn_icmp_gt (tgt := 75) dX8_isRest_53 (by decide) (by omega) (by omega) (fun hc53 => ?_) (fun hc53 => ?_)
    · refine z_iconst (v := nI 0) dX8_isRest_75 rfl ?_
      exact y_zreturn dX8_isRest_76 rfl (by first | exact Or.inl rfl | exact Or.inr rfl | assumption) ⟨by rw [b2i_f (rst_f (i := i) (by omega) (by simp [rst1]; omega))], rfl, rfl⟩
    · refine z_aload_n dX8_isRest_56 rfl ?_
      refine y_getR dX8_isRest_57 lf_X8_78 rfl rfl ?_
      refine z_iload dX8_isRest_60 rfl ?_
      refine z_aload_n dX8_isRest_62 rfl ?_
      refine y_getR dX8_isRest_63 lf_X8_74 rfl rfl ?_
      refine z_iload_n dX8_isRest_66 rfl ?_
      refine y_callV3x (M' := M_X2_worth) dX8_isRest_67 lm_X8_293 cv_X2_worth rfl (Nat.le_of_ble_eq_true rfl) (Nat.le_of_ble_eq_true rfl) rfl (c_worth59 (y := i) (y2 := y) (by omega) (by omega) (hG i (by omega)).2.2.2.1 (hG i (by omega)).2.2.1 (hG y (by omega)).1 (by have := (hG i (by omega)).2.2.2.2.2.1; omega) (by have := (hG y (by omega)).2.2.2.2.1; omega) d) ?_
      rw [show a2 i + (if c2 i = c y then 3 else 0) = wth a2 c2 c i y from rfl]
      refine z_iload dX8_isRest_70 rfl ?_
      refine zn_icmp_le (tgt := 77) dX8_isRest_72 (by decide) (by omega) (by omega) (fun hc72 => ?_) (fun hc72 => ?_)
      · refine zn_iinc5 dX8_isRest_77 rfl ?_
        refine z_goto (tgt := 32) dX8_isRest_80 (by decide) ?_
        exact ih (i + 1) (by omega) (fun j hj => by rcases Nat.lt_or_ge j i with g | g; exact hno j g; rw [show j = i by omega]; simp [rst1]; omega)
      · refine z_iconst (v := nI 0) dX8_isRest_75 rfl ?_
        exact y_zreturn dX8_isRest_76 rfl (by first | exact Or.inl rfl | exact Or.inr rfl | assumption) ⟨by rw [b2i_f (rst_f (i := i) (by omega) (by simp [rst1]; omega))], rfl, rfl⟩
set_option maxRecDepth 4000 in
theorem c_isRest {X : zX} {mu : zmu} {nu : znu} {a c a2 c2 : Nat → Nat} (hG : GF a c a2 c2 mu) {y z : Nat} (hy : y < 4) (hz : z < 4) (d : Nat) : zJ X M_X8_isRest (d + 1) 0 0 0 [.ref 0, .int (nI y), .int (nI z), zu, zu, zu] [] 86 (zEE (mu) nu) (zlift (zex (some (.int (b2i (rst a c a2 c2 y z)))) (mu) nu)) := by
  refine z_aload_n dX8_isRest_0 rfl ?_
  refine y_getR dX8_isRest_1 lf_X8_74 rfl rfl ?_
  refine z_iload_n dX8_isRest_4 rfl ?_
  refine z_aload_n dX8_isRest_5 rfl ?_
  refine y_getR dX8_isRest_6 lf_X8_78 rfl rfl ?_
  refine z_iload_n dX8_isRest_9 rfl ?_
  refine y_callV3x (M' := M_X2_worth) dX8_isRest_10 lm_X8_293 cv_X2_worth rfl (Nat.le_of_ble_eq_true rfl) (Nat.le_of_ble_eq_true rfl) rfl (c_worth56 (y := y) (y2 := z) (by omega) (by omega) (hG y (by omega)).2.1 (hG y (by omega)).1 (hG z (by omega)).2.2.1 (by have := (hG y (by omega)).2.2.2.2.1; omega) (by have := (hG z (by omega)).2.2.2.2.2.1; omega) d) ?_
  rw [show a y + (if c y = c2 z then 3 else 0) = wth a c c2 y z from rfl]
  refine z_istore3 dX8_isRest_13 rfl ?_
  refine z_aload_n dX8_isRest_14 rfl ?_
  refine y_getR dX8_isRest_15 lf_X8_78 rfl rfl ?_
  refine z_iload_n dX8_isRest_18 rfl ?_
  refine z_aload_n dX8_isRest_19 rfl ?_
  refine y_getR dX8_isRest_20 lf_X8_74 rfl rfl ?_
  refine z_iload_n dX8_isRest_23 rfl ?_
  refine y_callV3x (M' := M_X2_worth) dX8_isRest_24 lm_X8_293 cv_X2_worth rfl (Nat.le_of_ble_eq_true rfl) (Nat.le_of_ble_eq_true rfl) rfl (c_worth59 (y := z) (y2 := y) (by omega) (by omega) (hG z (by omega)).2.2.2.1 (hG z (by omega)).2.2.1 (hG y (by omega)).1 (by have := (hG z (by omega)).2.2.2.2.2.1; omega) (by have := (hG y (by omega)).2.2.2.2.1; omega) d) ?_
  rw [show a2 z + (if c2 z = c y then 3 else 0) = wth a2 c2 c z y from rfl]
  refine z_istore4 dX8_isRest_27 rfl ?_
  refine z_iconst (v := nI 0) dX8_isRest_29 rfl ?_
  refine z_istore5 dX8_isRest_30 rfl ?_
  exact c_isRest_l hG hy hz d 4 0 (by omega) (fun j hj => by omega)
/-- pairs below k, as 4 y + z, that are at rest -/
def rsk (a c a2 c2 : Nat → Nat) (k : Nat) : Bool := rst a c a2 c2 (k / 4) (k % 4)
set_option maxRecDepth 4000 in
theorem c_countIn {X : zX} {mu : zmu} {nu : znu} {a c a2 c2 : Nat → Nat} (hG : GF a c a2 c2 mu) {y : Nat} (hy : y < 4) (d : Nat) {Q : zq} (kk : zJ X M_X8_countOfRests (d + 2) 0 0 34 [.ref 0, .int (nI (bcnt (rsk a c a2 c2) (4 * y + 4))), .int (nI y), .int (nI 4)] [] 86 (zEE (mu) nu) (zlift (Q))) : ∀ n i , i + n = 4 → zJ X M_X8_countOfRests (d + 2) 0 0 11 [.ref 0, .int (nI (bcnt (rsk a c a2 c2) (4 * y + i))), .int (nI y), .int (nI i)] [] 86 (zEE (mu) nu) (zlift (Q)) := by
  intro n
  induction n with
  | zero =>
    intro i  hi
    obtain rfl : i = 4 := by omega
    refine z_iload_n dX8_countOfRests_11 rfl ?_
    refine z_iconst (v := nI 4) dX8_countOfRests_12 rfl ?_
    refine zn_icmp_ge (tgt := 34) dX8_countOfRests_13 (by decide) (by omega) (by omega) (fun hc13 => ?_) (fun hc13 => by omega)
    exact kk
  | succ n ih =>
    intro i  hi
    have er : rsk a c a2 c2 (4 * y + i) = rst a c a2 c2 y i := by unfold rsk; rw [show (4 * y + i) / 4 = y by omega, show (4 * y + i) % 4 = i by omega]
    refine z_iload_n dX8_countOfRests_11 rfl ?_
    refine z_iconst (v := nI 4) dX8_countOfRests_12 rfl ?_
    refine zn_icmp_ge (tgt := 34) dX8_countOfRests_13 (by decide) (by omega) (by omega) (fun hc13 => by omega) (fun hc13 => ?_)
    refine z_aload_n dX8_countOfRests_16 rfl ?_
    refine z_iload_n dX8_countOfRests_17 rfl ?_
    refine z_iload_n dX8_countOfRests_18 rfl ?_
    refine y_callV2x (M' := M_X8_isRest) dX8_countOfRests_19 lm_X8_297 cv_X8_isRest rfl (Nat.le_of_ble_eq_true rfl) (Nat.le_of_ble_eq_true rfl) rfl (c_isRest hG hy (by omega) d) ?_
    refine zb_if_eq (tgt := 28) dX8_countOfRests_22 (by decide) (fun hc22 => ?_) (fun hc22 => ?_)
    · refine zn_iinc3 dX8_countOfRests_28 rfl ?_
      refine z_goto (tgt := 11) dX8_countOfRests_31 (by decide) ?_
      have e := ih (i + 1) (by omega); rw [← Nat.add_assoc, bcnt_s, er, hc22] at e; exact e
    · refine zn_iinc1 dX8_countOfRests_25 rfl ?_
      refine zn_iinc3 dX8_countOfRests_28 rfl ?_
      refine z_goto (tgt := 11) dX8_countOfRests_31 (by decide) ?_
      have e := ih (i + 1) (by omega); rw [← Nat.add_assoc, bcnt_s, er, hc22] at e; exact e
set_option maxRecDepth 4000 in
theorem c_countOut {X : zX} {mu : zmu} {nu : znu} {a c a2 c2 : Nat → Nat} (hG : GF a c a2 c2 mu) (d : Nat) : ∀ n i , i + n = 4 → zJ X M_X8_countOfRests (d + 2) 0 0 4 [.ref 0, .int (nI (bcnt (rsk a c a2 c2) (4 * i))), .int (nI i), zu] [] 86 (zEE (mu) nu) (zlift (zex (some (.int (nI (bcnt (rsk a c a2 c2) 16)))) (mu) nu)) := by
  intro n
  induction n with
  | zero =>
    intro i  hi
    obtain rfl : i = 4 := by omega
    refine z_iload_n dX8_countOfRests_4 rfl ?_
    refine z_iconst (v := nI 4) dX8_countOfRests_5 rfl ?_
    refine zn_icmp_ge (tgt := 40) dX8_countOfRests_6 (by decide) (by omega) (by omega) (fun hc6 => ?_) (fun hc6 => by omega)
    refine z_iload_n dX8_countOfRests_40 rfl ?_
    exact y_ireturn dX8_countOfRests_41 rfl ⟨rfl, rfl, rfl⟩
  | succ n ih =>
    intro i  hi
    have ih1 := ih (i + 1) (by omega)
    refine z_iload_n dX8_countOfRests_4 rfl ?_
    refine z_iconst (v := nI 4) dX8_countOfRests_5 rfl ?_
    refine zn_icmp_ge (tgt := 40) dX8_countOfRests_6 (by decide) (by omega) (by omega) (fun hc6 => by omega) (fun hc6 => ?_)
    refine z_iconst (v := nI 0) dX8_countOfRests_9 rfl ?_
    refine z_istore3 dX8_countOfRests_10 rfl ?_
    refine c_countIn hG (y := i) (by omega) d ?_ 4 0 (by omega)
    refine zn_iinc2 dX8_countOfRests_34 rfl ?_
    refine z_goto (tgt := 4) dX8_countOfRests_37 (by decide) ?_
    exact z_sub ih1 ⟨Or.inr rfl, Or.inr rfl, Or.inr rfl, Or.inl rfl, trivial⟩
set_option maxRecDepth 4000 in
theorem c_countOfRests {X : zX} {mu : zmu} {nu : znu} {a c a2 c2 : Nat → Nat} (hG : GF a c a2 c2 mu) (d : Nat) : zJ X M_X8_countOfRests (d + 2) 0 0 0 [.ref 0, zu, zu, zu] [] 86 (zEE (mu) nu) (zlift (zex (some (.int (nI (bcnt (rsk a c a2 c2) 16)))) (mu) nu)) := by
  refine z_iconst (v := nI 0) dX8_countOfRests_0 rfl ?_
  refine z_istore1 dX8_countOfRests_1 rfl ?_
  refine z_iconst (v := nI 0) dX8_countOfRests_2 rfl ?_
  refine z_istore2 dX8_countOfRests_3 rfl ?_
  exact c_countOut hG d 4 0 (by omega)
/-- the first of k below n, as 10 y + z -/
def rfst (f : Nat → Bool) (n : Nat) : Option Nat := ((List.range n).find? f).map (fun k => 10 * (k / 4) + k % 4)
theorem rfst_some {f : Nat → Bool} {n k : Nat} (hk : k < n) (h : f k = true) (hb : ∀ j, j < k → f j = false) : rfst f n = some (10 * (k / 4) + k % 4) := by
  have : (List.range n).find? f = some k := by
    rw [List.find?_range_eq_some]; exact ⟨h, List.mem_range.mpr hk, fun j hj => by simp [hb j hj]⟩
  simp [rfst, this]
theorem rfst_none {f : Nat → Bool} {n : Nat} (hb : ∀ j, j < n → f j = false) : rfst f n = none := by
  have : (List.range n).find? f = none := by rw [List.find?_range_eq_none]; exact fun j hj => by simp [hb j hj]
  simp [rfst, this]
set_option maxRecDepth 4000 in
theorem c_firstIn {X : zX} {mu : zmu} {nu : znu} {a c a2 c2 : Nat → Nat} (hG : GF a c a2 c2 mu) {y : Nat} (hy : y < 4) (d : Nat) (kk : (∀ j, j < 4 * y + 4 → rsk a c a2 c2 j = false) → zJ X M_X8_firstRest (d + 2) 0 0 36 [.ref 0, .int (nI y), .int (nI 4)] [] 86 (zEE (mu) nu) (zlift (zex (some (.int (o9 (rfst (rsk a c a2 c2) 16)))) (mu) nu))) : ∀ n i , i + n = 4 → (∀ j, j < 4 * y + i → rsk a c a2 c2 j = false) → zJ X M_X8_firstRest (d + 2) 0 0 9 [.ref 0, .int (nI y), .int (nI i)] [] 86 (zEE (mu) nu) (zlift (zex (some (.int (o9 (rfst (rsk a c a2 c2) 16)))) (mu) nu)) := by
  intro n
  induction n with
  | zero =>
    intro i  hi
    intro hno
    obtain rfl : i = 4 := by omega
    refine z_iload_n dX8_firstRest_9 rfl ?_
    refine z_iconst (v := nI 4) dX8_firstRest_10 rfl ?_
    refine zn_icmp_ge (tgt := 36) dX8_firstRest_11 (by decide) (by omega) (by omega) (fun hc11 => ?_) (fun hc11 => by omega)
    exact kk hno
  | succ n ih =>
    intro i  hi
    intro hno
    have er : rsk a c a2 c2 (4 * y + i) = rst a c a2 c2 y i := by unfold rsk; rw [show (4 * y + i) / 4 = y by omega, show (4 * y + i) % 4 = i by omega]
    refine z_iload_n dX8_firstRest_9 rfl ?_
    refine z_iconst (v := nI 4) dX8_firstRest_10 rfl ?_
    refine zn_icmp_ge (tgt := 36) dX8_firstRest_11 (by decide) (by omega) (by omega) (fun hc11 => by omega) (fun hc11 => ?_)
    refine z_aload_n dX8_firstRest_14 rfl ?_
    refine z_iload_n dX8_firstRest_15 rfl ?_
    refine z_iload_n dX8_firstRest_16 rfl ?_
    refine y_callV2x (M' := M_X8_isRest) dX8_firstRest_17 lm_X8_297 cv_X8_isRest rfl (Nat.le_of_ble_eq_true rfl) (Nat.le_of_ble_eq_true rfl) rfl (c_isRest hG hy (by omega) d) ?_
    refine zb_if_eq (tgt := 30) dX8_firstRest_20 (by decide) (fun hc20 => ?_) (fun hc20 => ?_)
    · refine zn_iinc2 dX8_firstRest_30 rfl ?_
      refine z_goto (tgt := 9) dX8_firstRest_33 (by decide) ?_
      exact ih (i + 1) (by omega) (fun j hj => by rcases Nat.lt_or_ge j (4 * y + i) with g | g; exact hno j g; rw [show j = 4 * y + i by omega, er]; exact hc20)
    · refine z_bipush (v := nI 10) dX8_firstRest_23 rfl ?_
      refine z_iload_n dX8_firstRest_25 rfl ?_
      refine zn_imul dX8_firstRest_26 ?_
      refine z_iload_n dX8_firstRest_27 rfl ?_
      refine zn_iadd dX8_firstRest_28 ?_
      exact y_ireturn dX8_firstRest_29 rfl ⟨by rw [rfst_some (k := 4 * y + i) (by omega) (by rw [er]; exact hc20) hno, show (4 * y + i) / 4 = y by omega, show (4 * y + i) % 4 = i by omega]; rfl, rfl, rfl⟩
set_option maxRecDepth 4000 in
theorem c_firstOut {X : zX} {mu : zmu} {nu : znu} {a c a2 c2 : Nat → Nat} (hG : GF a c a2 c2 mu) (d : Nat) : ∀ n i , i + n = 4 → (∀ j, j < 4 * i → rsk a c a2 c2 j = false) → zJ X M_X8_firstRest (d + 2) 0 0 2 [.ref 0, .int (nI i), zu] [] 86 (zEE (mu) nu) (zlift (zex (some (.int (o9 (rfst (rsk a c a2 c2) 16)))) (mu) nu)) := by
  intro n
  induction n with
  | zero =>
    intro i  hi
    intro hno
    obtain rfl : i = 4 := by omega
    refine z_iload_n dX8_firstRest_2 rfl ?_
    refine z_iconst (v := nI 4) dX8_firstRest_3 rfl ?_
    refine zn_icmp_ge (tgt := 42) dX8_firstRest_4 (by decide) (by omega) (by omega) (fun hc4 => ?_) (fun hc4 => by omega)
    refine z_bipush (v := -9) dX8_firstRest_42 rfl ?_
    exact y_ireturn dX8_firstRest_44 rfl ⟨by rw [rfst_none hno]; rfl, rfl, rfl⟩
  | succ n ih =>
    intro i  hi
    intro hno
    refine z_iload_n dX8_firstRest_2 rfl ?_
    refine z_iconst (v := nI 4) dX8_firstRest_3 rfl ?_
    refine zn_icmp_ge (tgt := 42) dX8_firstRest_4 (by decide) (by omega) (by omega) (fun hc4 => by omega) (fun hc4 => ?_)
    refine z_iconst (v := nI 0) dX8_firstRest_7 rfl ?_
    refine z_istore2 dX8_firstRest_8 rfl ?_
    refine c_firstIn hG (y := i) (by omega) d (fun hno2 => ?_) 4 0 (by omega) hno
    refine zn_iinc1 dX8_firstRest_36 rfl ?_
    refine z_goto (tgt := 2) dX8_firstRest_39 (by decide) ?_
    exact z_sub (ih (i + 1) (by omega) (fun j hj => hno2 j (by omega))) ⟨Or.inr rfl, Or.inr rfl, Or.inl rfl, trivial⟩
set_option maxRecDepth 4000 in
theorem c_firstRest {X : zX} {mu : zmu} {nu : znu} {a c a2 c2 : Nat → Nat} (hG : GF a c a2 c2 mu) (d : Nat) : zJ X M_X8_firstRest (d + 2) 0 0 0 [.ref 0, zu, zu] [] 86 (zEE (mu) nu) (zlift (zex (some (.int (o9 (rfst (rsk a c a2 c2) 16)))) (mu) nu)) := by
  refine z_iconst (v := nI 0) dX8_firstRest_0 rfl ?_
  refine z_istore1 dX8_firstRest_1 rfl ?_
  exact c_firstOut hG d 4 0 (by omega) (fun j hj => by omega)
