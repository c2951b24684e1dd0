set_option maxRecDepth 4000 in
theorem m_div_l {X : zX} {mu : zmu} {nu : znu} {a b : Nat} (d : Nat) : ∀ l g, g < 2 ^ 31 → l < 2 ^ 31 → zJ X M_X9_divisor d 0 0 13 [.int (nI a), .int (nI b), .int (nI g), .int (nI l), zu] [] 86 (zEE (mu) (nu)) (zlift (zex (some (.int (nI (Nat.gcd g l)))) mu nu)) := by
  intro l
  induction l using Nat.strongRecOn with
  | ind l ih =>
    intro g hg hl
    refine z_iload_n dX9_divisor_13 rfl ?_
    refine zn_if_eq (tgt := 30) dX9_divisor_14 (by decide) (by omega) (fun hc14 => ?_) (fun hc14 => ?_)
    · subst hc14
      refine z_iload_n dX9_divisor_30 rfl ?_
      exact y_ireturn dX9_divisor_31 rfl ⟨by rw [Nat.gcd_zero_right], rfl, rfl⟩
    · have hml := Nat.mod_lt g (show 0 < l by omega)
      refine z_iload_n dX9_divisor_17 rfl ?_
      refine z_iload_n dX9_divisor_18 rfl ?_
      refine zn_irem dX9_divisor_19 (by omega) (by omega) (by omega) ?_
      refine z_istore4 dX9_divisor_20 rfl ?_
      refine z_iload_n dX9_divisor_22 rfl ?_
      refine z_istore2 dX9_divisor_23 rfl ?_
      refine z_iload dX9_divisor_24 rfl ?_
      refine z_istore3 dX9_divisor_26 rfl ?_
      refine z_goto (tgt := 13) dX9_divisor_27 (by decide) ?_
      rw [← gcd_s]; exact z_sub (ih (g % l) hml l hl (by omega)) ⟨Or.inr rfl, Or.inr rfl, Or.inr rfl, Or.inr rfl, Or.inl rfl, trivial⟩
set_option maxRecDepth 4000 in
theorem m_divisor {X : zX} {mu : zmu} {nu : znu} {a b : Nat} (ha : a < 2 ^ 31) (hb : b < 2 ^ 31) (d : Nat) : zJ X M_X9_divisor d 0 0 0 [.int (nI a), .int (nI b), zu, zu, zu] [] 86 (zEE (mu) (nu)) (zlift (zex (some (.int (nI (Nat.gcd a b)))) mu nu)) := by
  refine z_iload_n dX9_divisor_0 rfl ?_
  refine z_if_ge (tgt := 9) dX9_divisor_1 (by decide) (fun hc1 => ?_) (fun hc1 => by exact absurd (Int32.not_lt.mp (nI_pos ha)) hc1)
  refine z_iload_n dX9_divisor_9 rfl ?_
  refine z_istore2 dX9_divisor_10 rfl ?_
  refine z_iload_n dX9_divisor_11 rfl ?_
  refine z_istore3 dX9_divisor_12 rfl ?_
  exact m_div_l d b a ha hb
set_option maxRecDepth 4000 in
theorem m_fraction {X : zX} {mu : zmu} {nu : znu} {a b : Nat} (ha : a < 2 ^ 31) (hb : b < 2 ^ 31) (h0 : 0 < b) (u : Bool) (d : Nat) : zJ X M_X9_fraction (d + 1) 0 0 0 [.int (nI a), .int (nI b), .int (b2i u), zu] [] 86 (zEE (mu) (nu)) (zlift (zex (some (.int (nI (frc a b u)))) mu nu)) := by
  have hg := gcd_le2 (a := a) h0
  refine z_iload_n dX9_fraction_0 rfl ?_
  refine z_iload_n dX9_fraction_1 rfl ?_
  refine y_callS2x (M' := M_X9_divisor) dX9_fraction_2 lm_X9_254 cs_X9_divisor (Nat.le_of_ble_eq_true rfl) (Nat.le_of_ble_eq_true rfl) rfl (m_divisor ha hb _) ?_
  refine z_istore3 dX9_fraction_5 rfl ?_
  refine z_iload_n dX9_fraction_6 rfl ?_
  refine zb_if_eq (tgt := 16) dX9_fraction_7 (by decide) (fun hc7 => ?_) (fun hc7 => ?_)
  · refine z_iload_n dX9_fraction_16 rfl ?_
    refine z_iload_n dX9_fraction_17 rfl ?_
    refine zn_idiv dX9_fraction_18 (by omega) (by omega) (by omega) ?_
    exact y_ireturn dX9_fraction_19 rfl ⟨by simp [frc, hc7], rfl, rfl⟩
  · refine z_iload_n dX9_fraction_10 rfl ?_
    refine z_iload_n dX9_fraction_11 rfl ?_
    refine zn_idiv dX9_fraction_12 (by omega) (by omega) (by omega) ?_
    refine z_goto (tgt := 19) dX9_fraction_13 (by decide) ?_
    exact y_ireturn dX9_fraction_19 rfl ⟨by simp [frc, hc7], rfl, rfl⟩
/-- k steps by the figures of a row, to the base of four -/
def wk (p : PT) (cut b : Nat) (row pl : Nat) : Nat → Nat
  | 0 => pl
  | k + 1 => nxt p cut b (wk p cut b row pl k) (row / 4 ^ k % 4)
theorem wk_s (p : PT) (cut b row pl : Nat) : ∀ k, wk p cut b row pl (k + 1) = wk p cut b (row / 4) (nxt p cut b pl (row % 4)) k
  | 0 => by simp [wk]
  | k + 1 => by
    have h := wk_s p cut b row pl k
    show nxt p cut b (wk p cut b row pl (k + 1)) (row / 4 ^ (k + 1) % 4) = nxt p cut b (wk p cut b (row / 4) (nxt p cut b pl (row % 4)) k) (row / 4 / 4 ^ k % 4)
    rw [h, Nat.div_div_eq_div_mul, show 4 * 4 ^ k = 4 ^ (k + 1) by rw [Nat.pow_succ, Nat.mul_comm]]
theorem bcnt_4 (F : Nat → Nat → Bool) : ∀ m, bcnt (fun row => F (row % 4) (row / 4)) (4 * m) = wsum (fun y => bcnt (F y) m) 4
  | 0 => rfl
  | m + 1 => by
    have h := bcnt_4 F m
    rw [show 4 * (m + 1) = 4 * m + 1 + 1 + 1 + 1 by omega, bcnt_s, bcnt_s, bcnt_s, bcnt_s, h]
    simp only [wsum, bcnt_s]
    rw [show (4 * m) % 4 = 0 by omega, show (4 * m) / 4 = m by omega, show (4 * m + 1) % 4 = 1 by omega, show (4 * m + 1) / 4 = m by omega, show (4 * m + 1 + 1) % 4 = 2 by omega, show (4 * m + 1 + 1) / 4 = m by omega, show (4 * m + 1 + 1 + 1) % 4 = 3 by omega, show (4 * m + 1 + 1 + 1) / 4 = m by omega]
    omega
def wkf (p : PT) (cut b pl n row : Nat) : Bool := wk p cut b row pl n == 480 + pH p b
theorem wk_cnt (p : PT) (cut b : Nat) : ∀ n pl, bcnt (wkf p cut b pl n) (4 ^ n) = wkh p cut b n pl
  | 0, pl => by simp [wkf, wk, wkh, bcnt]
  | n + 1, pl => by
    have e : wkf p cut b pl (n + 1) = fun row => (fun y r => wkf p cut b (nxt p cut b pl y) n r) (row % 4) (row / 4) := by
      funext row; simp only [wkf, wk_s]
    rw [e, show 4 ^ (n + 1) = 4 * 4 ^ n by rw [Nat.pow_succ, Nat.mul_comm]]
    exact (bcnt_4 (fun y r => wkf p cut b (nxt p cut b pl y) n r) (4 ^ n)).trans (by simp only [wkh, wsum]; rw [wk_cnt p cut b n, wk_cnt p cut b n, wk_cnt p cut b n, wk_cnt p cut b n])
theorem wk_ok {p : PT} (hp : PV p) {cut b row pl : Nat} (hb : b < pb p) (h : vpl p pl) : ∀ k, vpl p (wk p cut b row pl k)
  | 0 => h
  | k + 1 => nxt_ok hp hb (wk_ok hp hb h k) (Nat.mod_lt _ (by decide))
theorem goS_up (p : PT) (f : Nat → Nat) (cut b pl y : Nat) : goS p (upP f b pl, cut) b y = (upP f b (nxt p cut b pl y), cut) := by
  have e0 : upP f b pl b = pl := by simp [upP]
  unfold goS nxt
  rw [show ((upP f b pl, cut) : SC).1 b = pl from e0]
  cases h : pon p cut b pl y with
  | none => rfl
  | some q =>
    show ((fun x => if x = b then q else upP f b pl x), cut) = ((fun x => if x = b then q else f x), cut)
    congr 1
    funext x
    by_cases hx : x = b
    · simp [hx]
    · simp [hx, upP]
theorem up_V {p : PT} {s : SC} {b pl : Nat} (hV : SVs p s) (h : vpl p pl) : SVs p (upP s.1 b pl, s.2) := by
  refine ⟨fun i hi => ?_, hV.2⟩
  show (if i = b then pl else s.1 i) < 980 ∧ (if i = b then pl else s.1 i) % 20 < _
  by_cases hib : i = b
  · rw [if_pos hib]; exact h
  · rw [if_neg hib]; exact hV.1 i hi
set_option maxRecDepth 4000 in
theorem r_straysIn {X : zX} {mu : zmu} {nu : znu} {A : AS} (hA : AV A) (hC : MR A mu nu) {b w row up : Nat} {u : Bool} (hb : b < pb (aP A)) (hw : w ≤ 5) (hrow : row < 2 ^ 20) {Q : zq} (d : Nat) (kk : ∀ mu9, S8a 74 mu mu9 → PG (aP A) (upP (aN A).1 b (wk (aP A) (aN A).2 b row ((aN A).1 b) w), (aN A).2) 74 mu9 → zJ X M_X9_strays (d + 10) 0 0 86 [.ref 66, .int (nI b), .int (nI w), .int (b2i u), .int (nI (up)), .int (nI (row)), .int (nI w)] [] 86 (zEE (mu9) (nu)) (zlift (Q))) : ∀ n i mu1, i + n = w → S8a 74 mu mu1 → PG (aP A) (upP (aN A).1 b (wk (aP A) (aN A).2 b row ((aN A).1 b) i), (aN A).2) 74 mu1 → zJ X M_X9_strays (d + 10) 0 0 53 [.ref 66, .int (nI b), .int (nI w), .int (b2i u), .int (nI (up)), .int (nI (row)), .int (nI i)] [] 86 (zEE (mu1) (nu)) (zlift (Q)) := by
  intro n
  induction n with
  | zero =>
    intro i mu1 hi
    have hp := hA.1
    have hV := hA.2.1
    have h20 : pw (aP A) * ph (aP A) ≤ 20 := hA.n
    have h5 := hA.b
    intro hS hG
    obtain rfl : i = w := by omega
    refine z_iload dX9_strays_53 rfl ?_
    refine z_iload_n dX9_strays_55 rfl ?_
    refine zn_icmp_ge (tgt := 86) dX9_strays_56 (by decide) (by omega) (by omega) (fun hc56 => ?_) (fun hc56 => by omega)
    exact kk mu1 hS hG
  | succ n ih =>
    intro i mu1 hi
    have hp := hA.1
    have hV := hA.2.1
    have h20 : pw (aP A) * ph (aP A) ≤ 20 := hA.n
    have h5 := hA.b
    intro hS hG
    have hvp := wk_ok hp (cut := (aN A).2) (row := row) hb (hV.1 b hb) i
    have hv1 := up_V (b := b) hV hvp
    have h4 : 4 ^ i ≤ 4 ^ 5 := Nat.pow_le_pow_right (by decide) (by omega)
    have h40 : 0 < 4 ^ i := Nat.pow_pos (by decide)
    have hd1 := Nat.div_le_self row (4 ^ i)
    have hdm : row / 4 ^ i % 4 < 4 := Nat.mod_lt _ (by decide)
    refine z_iload dX9_strays_53 rfl ?_
    refine z_iload_n dX9_strays_55 rfl ?_
    refine zn_icmp_ge (tgt := 86) dX9_strays_56 (by decide) (by omega) (by omega) (fun hc56 => by omega) (fun hc56 => ?_)
    refine z_aload_n dX9_strays_59 rfl ?_
    refine z_aload_n dX9_strays_60 rfl ?_
    refine y_getR dX9_strays_61 lf_X9_38 rfl rfl ?_
    refine z_iload_n dX9_strays_64 rfl ?_
    refine z_iload dX9_strays_65 rfl ?_
    refine z_iconst (v := nI 4) dX9_strays_67 rfl ?_
    refine z_iload dX9_strays_68 rfl ?_
    refine y_callS2x (M' := M_X9_power) dX9_strays_70 lm_X9_280 cs_X9_power (Nat.le_of_ble_eq_true rfl) (Nat.le_of_ble_eq_true rfl) rfl (m_power (by omega) _) ?_
    refine zn_idiv dX9_strays_73 (by omega) (by omega) (by omega) ?_
    refine z_iconst (v := nI 4) dX9_strays_74 rfl ?_
    refine zn_irem dX9_strays_75 (by omega) (by omega) (by omega) ?_
    refine y_callV3 (M' := M_X9_goStep) dX9_strays_76 lm_X9_200 cv_X9_goStep rfl (Nat.le_of_ble_eq_true rfl) (Nat.le_of_ble_eq_true rfl) rfl (m_goStep hp (PM_8 hC.1 p74 hS) p74 hG hv1 hb hdm _) (fun r mu2 nu2 hq => ?_)
    obtain ⟨rfl, rfl, hG2, hS2⟩ := hq
    rw [goS_up] at hG2
    refine z_pop dX9_strays_79 rfl ?_
    refine zn_iinc6 dX9_strays_80 rfl ?_
    refine z_goto (tgt := 53) dX9_strays_83 (by decide) ?_
    exact ih (i + 1) mu2 (by omega) (S8a_tr hS hS2) hG2
set_option maxRecDepth 4000 in
theorem r_strays_l {X : zX} {mu : zmu} {nu : znu} {A : AS} (hA : AV A) (hC : MR A mu nu) {b w : Nat} {u : Bool} (hb : b < pb (aP A)) (hw : w ≤ 5) (d : Nat) : ∀ n i mu1, i + n = 4 ^ w → S8a 74 mu mu1 → zJ X M_X9_strays (d + 10) 0 0 36 [.ref 66, .int (nI b), .int (nI w), .int (b2i u), .int (nI (bcnt (wkf (aP A) (aN A).2 b ((aN A).1 b) w) i)), .int (nI (i)), zu] [] 86 (zEE (mu1) (nu)) (zlift (QM (nI (frc (wkh (aP A) (aN A).2 b w ((aN A).1 b)) (4 ^ w) u), A) mu nu)) := by
  intro n
  induction n with
  | zero =>
    intro i mu1 hi
    have hp := hA.1
    have hV := hA.2.1
    have h20 : pw (aP A) * ph (aP A) ≤ 20 := hA.n
    have h5 := hA.b
    have h4 : 4 ^ w ≤ 4 ^ 5 := Nat.pow_le_pow_right (by decide) (by omega)
    have h40 : 0 < 4 ^ w := Nat.pow_pos (by decide)
    intro hS
    have hbl := bcnt_le (wkf (aP A) (aN A).2 b ((aN A).1 b) w) i
    obtain rfl : i = 4 ^ w := by omega
    rw [wk_cnt] at hbl ⊢
    refine z_iload dX9_strays_36 rfl ?_
    refine z_iconst (v := nI 4) dX9_strays_38 rfl ?_
    refine z_iload_n dX9_strays_39 rfl ?_
    refine y_callS2x (M' := M_X9_power) dX9_strays_40 lm_X9_280 cs_X9_power (Nat.le_of_ble_eq_true rfl) (Nat.le_of_ble_eq_true rfl) rfl (m_power (by omega) _) ?_
    refine zn_icmp_ge (tgt := 114) dX9_strays_43 (by decide) (by omega) (by omega) (fun hc43 => ?_) (fun hc43 => by exact absurd hc43 (Nat.lt_irrefl _))
    refine z_iload dX9_strays_114 rfl ?_
    refine z_iconst (v := nI 4) dX9_strays_116 rfl ?_
    refine z_iload_n dX9_strays_117 rfl ?_
    refine y_callS2x (M' := M_X9_power) dX9_strays_118 lm_X9_280 cs_X9_power (Nat.le_of_ble_eq_true rfl) (Nat.le_of_ble_eq_true rfl) rfl (m_power (by omega) _) ?_
    refine z_iload_n dX9_strays_121 rfl ?_
    refine y_callS3x (M' := M_X9_fraction) dX9_strays_122 lm_X9_260 cs_X9_fraction (Nat.le_of_ble_eq_true rfl) (Nat.le_of_ble_eq_true rfl) rfl (m_fraction (by omega) (by omega) (by omega) u _) ?_
    exact y_ireturn dX9_strays_125 rfl (QM_m hC (Sm_74 hS) rfl)
  | succ n ih =>
    intro i mu1 hi
    have hp := hA.1
    have hV := hA.2.1
    have h20 : pw (aP A) * ph (aP A) ≤ 20 := hA.n
    have h5 := hA.b
    have h4 : 4 ^ w ≤ 4 ^ 5 := Nat.pow_le_pow_right (by decide) (by omega)
    have h40 : 0 < 4 ^ w := Nat.pow_pos (by decide)
    intro hS
    have hC1 := MR_s hC (Sm_74 hS)
    have hbl := bcnt_le (wkf (aP A) (aN A).2 b ((aN A).1 b) w) i
    refine z_iload dX9_strays_36 rfl ?_
    refine z_iconst (v := nI 4) dX9_strays_38 rfl ?_
    refine z_iload_n dX9_strays_39 rfl ?_
    refine y_callS2x (M' := M_X9_power) dX9_strays_40 lm_X9_280 cs_X9_power (Nat.le_of_ble_eq_true rfl) (Nat.le_of_ble_eq_true rfl) rfl (m_power (by omega) _) ?_
    refine zn_icmp_ge (tgt := 114) dX9_strays_43 (by decide) (by omega) (by omega) (fun hc43 => by omega) (fun hc43 => ?_)
    refine z_aload_n dX9_strays_46 rfl ?_
    refine y_callV0x (M' := M_X9_begin) dX9_strays_47 lm_X9_248 cv_X9_begin rfl (Nat.le_of_ble_eq_true rfl) (Nat.le_of_ble_eq_true rfl) rfl (m_begin _) ?_
    refine z_iconst (v := nI 0) dX9_strays_50 rfl ?_
    refine z_istore6 dX9_strays_51 rfl ?_
    refine r_straysIn hA hC (row := i) (up := bcnt (wkf (aP A) (aN A).2 b ((aN A).1 b) w) i) hb hw (by omega) d (fun mu9 hS9 hG9 => ?_) w 0 _ (by omega) (S8a_tr hS S8_begin) (PG_fe (PG_begin hp hC1.2.1) (fun x hx => ?_) rfl)
    · have hvp := wk_ok hp (cut := (aN A).2) (row := i) hb (hV.1 b hb) w
      have hv1 := up_V (b := b) hV hvp
      have eh : hmf (aP A) (upP (aN A).1 b (wk (aP A) (aN A).2 b i ((aN A).1 b) w)) b = wkf (aP A) (aN A).2 b ((aN A).1 b) w i := by unfold hmf wkf upP; simp
      refine z_iload dX9_strays_86 rfl ?_
      refine z_aload_n dX9_strays_88 rfl ?_
      refine z_aload_n dX9_strays_89 rfl ?_
      refine y_getR dX9_strays_90 lf_X9_38 rfl rfl ?_
      refine z_iload_n dX9_strays_93 rfl ?_
      refine y_callV2x (M' := M_X9_isHome) dX9_strays_94 lm_X9_162 cv_X9_isHome rfl (Nat.le_of_ble_eq_true rfl) (Nat.le_of_ble_eq_true rfl) rfl (m_isHome hp (PM_8 hC.1 p74 hS9) p74 hG9 hv1 hb _) ?_
      rw [eh]
      refine zb_if_eq (tgt := 104) dX9_strays_97 (by decide) (fun hc97 => ?_) (fun hc97 => ?_)
      · refine z_iconst (v := nI 0) dX9_strays_104 rfl ?_
        refine zn_iadd dX9_strays_105 ?_
        refine z_istore4 dX9_strays_106 rfl ?_
        refine zn_iinc5 dX9_strays_108 rfl ?_
        refine z_goto (tgt := 36) dX9_strays_111 (by decide) ?_
        have e : bcnt (wkf (aP A) (aN A).2 b ((aN A).1 b) w) (i + 1) = bcnt (wkf (aP A) (aN A).2 b ((aN A).1 b) w) i + 0 := by rw [bcnt_s, hc97]; rfl
        rw [← e]; exact z_sub (ih (i + 1) mu9 (by omega) hS9) ⟨Or.inr rfl, Or.inr rfl, Or.inr rfl, Or.inr rfl, Or.inr rfl, Or.inr rfl, Or.inl rfl, trivial⟩
      · refine z_iconst (v := nI 1) dX9_strays_100 rfl ?_
        refine z_goto (tgt := 105) dX9_strays_101 (by decide) ?_
        refine zn_iadd dX9_strays_105 ?_
        refine z_istore4 dX9_strays_106 rfl ?_
        refine zn_iinc5 dX9_strays_108 rfl ?_
        refine z_goto (tgt := 36) dX9_strays_111 (by decide) ?_
        have e : bcnt (wkf (aP A) (aN A).2 b ((aN A).1 b) w) (i + 1) = bcnt (wkf (aP A) (aN A).2 b ((aN A).1 b) w) i + 1 := by rw [bcnt_s, hc97]; rfl
        rw [← e]; exact z_sub (ih (i + 1) mu9 (by omega) hS9) ⟨Or.inr rfl, Or.inr rfl, Or.inr rfl, Or.inr rfl, Or.inr rfl, Or.inr rfl, Or.inl rfl, trivial⟩
    · show upP (aN A).1 b ((aN A).1 b) x = (aN A).1 x
      unfold upP; split
      · rename_i e; rw [e]
      · rfl
set_option maxRecDepth 4000 in
theorem r_strays {X : zX} {mu : zmu} {nu : znu} {A : AS} (hA : AV A) (hC : MR A mu nu) (x y : Int32) (u : Bool) (d : Nat) : zJ X M_X9_strays (d + 10) 0 0 0 [.ref 66, .int x, .int y, .int (b2i u), zu, zu, zu] [] 86 (zEE (mu) (nu)) (zlift (QM (f_strays A x y u) mu nu)) := by
  have hp := hA.1
  have hV := hA.2.1
  have h20 : pw (aP A) * ph (aP A) ≤ 20 := hA.n
  have h5 := hA.b
  refine z_aload_n dX9_strays_0 rfl ?_
  refine z_iconst (v := nI 0) dX9_strays_1 rfl ?_
  refine y_putI dX9_strays_2 lp_X9_75 rfl rfl ?_
  refine zJ_mono (Q := QM (f_strays A x y u) (u2 mu 66 0 (nI 0)) nu) ?_ QM_th
  replace hC := MR_m hC (Sm_th (mu := mu) (v := nI 0)) rfl
  generalize u2 mu 66 0 (nI 0) = mu at hC ⊢
  obtain ⟨hM, hG, hB, hKe, hE, hT, hD⟩ := id hC
  refine z_aload_n dX9_strays_5 rfl ?_
  refine z_iload_n dX9_strays_6 rfl ?_
  refine y_callV1x (M' := M_X9_noBoy) dX9_strays_7 lm_X9_191 cv_X9_noBoy rfl (Nat.le_of_ble_eq_true rfl) (Nat.le_of_ble_eq_true rfl) rfl (m_noBoy hp hM x _) ?_
  refine zb_if_eq (tgt := 15) dX9_strays_10 (by decide) (fun hc10 => ?_) (fun hc10 => ?_)
  · have g : inr x (pb (aP A)) = true := by simpa using hc10
    obtain ⟨b, hb, rfl⟩ := inr_t (show inr x (pb (aP A)) = true from g) (by omega)
    refine z_iload_n dX9_strays_15 rfl ?_
    refine z_i2l dX9_strays_16 ?_
    refine z_lconst (v := 1) dX9_strays_17 rfl ?_
    refine z_ldc2 (v := nL 5) dX9_strays_18 lk_X9_278 ?_
    refine y_callS3x (M' := M_X9_in) dX9_strays_21 lm_X9_81 cs_X9_in (Nat.le_of_ble_eq_true rfl) (Nat.le_of_ble_eq_true rfl) rfl (m_in _ _ _ _) ?_
    rw [in_1 (by decide)]
    refine zb_if_ne (tgt := 30) dX9_strays_24 (by decide) (fun hc24 => ?_) (fun hc24 => ?_)
    · obtain ⟨w, hw1, hw5, rfl⟩ := in1_t hc24 (by decide)
      refine z_iconst (v := nI 0) dX9_strays_30 rfl ?_
      refine z_istore4 dX9_strays_31 rfl ?_
      refine z_iconst (v := nI 0) dX9_strays_33 rfl ?_
      refine z_istore5 dX9_strays_34 rfl ?_
      have e : f_strays A (nI b) (nI w) u = (nI (frc (wkh (aP A) (aN A).2 b w ((aN A).1 b)) (4 ^ w) u), A) := by simp [f_strays, g, hc24, ix_nI (show b < 2 ^ 31 by omega), ix_nI (show w < 2 ^ 31 by omega)]
      rw [e]
      exact r_strays_l hA hC hb hw5 d (4 ^ w) 0 mu (by omega) S8a_rf
    · refine z_bipush (v := -2) dX9_strays_27 rfl ?_
      exact y_ireturn dX9_strays_29 rfl (QM_rf hC (by simp [f_strays, g, hc24]))
  · have g : inr x (pb (aP A)) = false := by simpa using hc10
    refine z_iconst (v := -1) dX9_strays_13 rfl ?_
    exact y_ireturn dX9_strays_14 rfl (QM_rf hC (by simp [f_strays, g]))
