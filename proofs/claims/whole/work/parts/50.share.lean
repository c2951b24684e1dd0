def fac : Nat → Nat
  | 0 => 1
  | n + 1 => fac n * (n + 1)
def vS (R : Nat → Nat) (S : Nat) : Nat → Nat
  | 0 => 0
  | o + 1 => vS R S o ||| (if S.testBit o = true then R o else 0)
def hit (S m : Nat) (n : Nat) : Bool := (List.range n).any (fun o => S.testBit o && m.testBit o)
theorem vS_bit {R : Nat → Nat} {S c : Nat} : ∀ n, (vS R S n).testBit c = (List.range n).any (fun o => S.testBit o && (R o).testBit c)
  | 0 => by simp [vS]
  | n + 1 => by
    rw [List.range_succ, List.any_append, ← vS_bit n]
    show (vS R S n ||| (if S.testBit n = true then R n else 0)).testBit c = _
    rw [Nat.testBit_or]
    cases h : S.testBit n <;> simp [h]
def mcB (R : Nat → Nat) (n c : Nat) : Nat := bset (fun o => (R o).testBit c) n
theorem mcB_bit {R : Nat → Nat} {n c o : Nat} (h : o < n) : (mcB R n c).testBit o = (R o).testBit c := by unfold mcB; rw [bset_bit]; simp [h]
theorem vS_hit {R : Nat → Nat} {S c n : Nat} : (vS R S n).testBit c = hit S (mcB R n c) n := by
  rw [vS_bit]; unfold hit
  apply Bool.eq_iff_iff.mpr
  simp only [List.any_eq_true, List.mem_range, Bool.and_eq_true]
  constructor
  · rintro ⟨o, ho, h1, h2⟩; exact ⟨o, ho, h1, by rw [mcB_bit ho]; exact h2⟩
  · rintro ⟨o, ho, h1, h2⟩; exact ⟨o, ho, h1, by rw [mcB_bit ho] at h2; exact h2⟩
theorem vS_lt {R : Nat → Nat} {S : Nat} (h : ∀ o, R o < 2 ^ 20) : ∀ n, vS R S n < 2 ^ 20
  | 0 => by show 0 < 2 ^ 20; decide
  | n + 1 => by
    show vS R S n ||| (if S.testBit n = true then R n else 0) < 2 ^ 20
    refine Nat.or_lt_two_pow (vS_lt h n) ?_
    split
    · exact h n
    · decide
def n1 (b : Bool) : Nat := if b = true then 1 else 0
theorem bcnt_w (f : Nat → Bool) : ∀ n, bcnt f n = wsum (fun c => n1 (f c)) n
  | 0 => rfl
  | n + 1 => by rw [bcnt_s, bcnt_w f n]; rfl
theorem wsum_congr {f g : Nat → Nat} : ∀ {n : Nat}, (∀ i, i < n → f i = g i) → wsum f n = wsum g n
  | 0, _ => rfl
  | n + 1, h => by unfold wsum; rw [wsum_congr (fun i hi => h i (by omega)), h n (by omega)]
theorem wsum_sub {f g : Nat → Nat} : ∀ {n : Nat}, (∀ i, i < n → g i ≤ f i) → wsum g n ≤ wsum f n ∧ wsum f n - wsum g n = wsum (fun i => f i - g i) n
  | 0, _ => ⟨Nat.le_refl _, rfl⟩
  | n + 1, h => by
    obtain ⟨h1, h2⟩ := wsum_sub (n := n) (fun i hi => h i (by omega))
    have h3 := h n (by omega)
    unfold wsum
    exact ⟨by omega, by omega⟩
theorem wsum_add (f g : Nat → Nat) : ∀ n, wsum (fun i => f i + g i) n = wsum f n + wsum g n
  | 0 => rfl
  | n + 1 => by unfold wsum; rw [wsum_add f g n]; omega
theorem wsum_mul (k : Nat) (f : Nat → Nat) : ∀ n, k * wsum f n = wsum (fun i => k * f i) n
  | 0 => Nat.mul_zero k
  | n + 1 => by unfold wsum; rw [Nat.mul_add, wsum_mul k f n]
theorem wsum_0 : ∀ n, wsum (fun _ => 0) n = 0
  | 0 => rfl
  | n + 1 => by unfold wsum; rw [wsum_0 n]
theorem wsum_swap (f : Nat → Nat → Nat) (m : Nat) : ∀ n, wsum (fun i => wsum (f i) m) n = wsum (fun j => wsum (fun i => f i j) n) m
  | 0 => (wsum_0 m).symm
  | n + 1 => by
    show wsum (fun i => wsum (f i) m) n + wsum (f n) m = _
    rw [wsum_swap f m n, ← wsum_add]; rfl
def cnt5 (S : Nat) : Nat := bcnt (fun i => S.testBit i) 5
theorem cnt_try : tryN 32 (fun S => popc S == cnt5 S) = true := by decide +kernel
theorem cnt_eq {S : Nat} (h : S < 32) : popc S = cnt5 S := by have := tryN_at cnt_try h; simpa using this
theorem cntb_try : tryN 6 (fun n => tryN 5 fun b => tryN 32 fun S => !(decide (b < n) && (decide (S < 2 ^ n) && !S.testBit b)) || (decide (cnt5 S ≤ n - 1) && decide (S ||| 1 * 2 ^ b < 2 ^ n))) = true := by decide +kernel
theorem cntb {n b S : Nat} (hn : n ≤ 5) (hb : b < n) (hS : S < 2 ^ n) (h : S.testBit b = false) : cnt5 S ≤ n - 1 ∧ S ||| 1 * 2 ^ b < 2 ^ n := by
  have h32 : S < 32 := Nat.lt_of_lt_of_le hS (Nat.pow_le_pow_right (n := 2) (by decide) hn)
  have g := tryN_at (tryN_at (tryN_at cntb_try (show n < 6 by omega)) (show b < 5 by omega)) h32
  simp [hb, hS, h] at g
  simpa using g
def wgt (n S : Nat) : Nat := fac (cnt5 S) * fac (n - 1 - cnt5 S)
/-- a cell's part of the sum over all that some boys come to, by the boys m who come to it -/
def TT (n b m : Nat) : Nat := wsum (fun S => if S.testBit b = true then 0 else wgt n S * (n1 (hit (S ||| 1 * 2 ^ b) m n) - n1 (hit S m n))) (1 * 2 ^ n)
theorem TT_try : tryN 6 (fun n => tryN 5 fun b => tryN 32 fun m => !(decide (b < n)) || (60 * TT n b m == fac n * (if m.testBit b = true then 60 / bcnt (fun j => m.testBit j) n else 0))) = true := by decide +kernel
theorem TT_eq {n b m : Nat} (hn : n ≤ 5) (hb : b < n) (hm : m < 32) : 60 * TT n b m = fac n * (if m.testBit b = true then 60 / bcnt (fun j => m.testBit j) n else 0) := by
  have g := tryN_at (tryN_at (tryN_at TT_try (show n < 6 by omega)) (show b < 5 by omega)) hm
  simp [hb] at g
  exact g
def upS (R : Nat → Nat) (n b S : Nat) : Nat := if S.testBit b = true then 0 else wgt n S * (popc (vS R (S ||| 1 * 2 ^ b) n) - popc (vS R S n))
theorem hit_mono {S b m n : Nat} (h : hit S m n = true) : hit (S ||| 1 * 2 ^ b) m n = true := by
  unfold hit at *
  rw [List.any_eq_true] at *
  obtain ⟨o, ho, h2⟩ := h
  refine ⟨o, ho, ?_⟩
  rw [Bool.and_eq_true] at *
  exact ⟨by rw [Nat.testBit_or, h2.1]; rfl, h2.2⟩
theorem n1_mono {a b : Bool} (h : a = true → b = true) : n1 a ≤ n1 b := by
  unfold n1; cases a <;> cases b <;> simp_all
theorem pop_sub (R : Nat → Nat) (n b S : Nat) : popc (vS R S n) ≤ popc (vS R (S ||| 1 * 2 ^ b) n) ∧ popc (vS R (S ||| 1 * 2 ^ b) n) - popc (vS R S n) = wsum (fun c => n1 (hit (S ||| 1 * 2 ^ b) (mcB R n c) n) - n1 (hit S (mcB R n c) n)) 20 := by
  have e : ∀ T, popc (vS R T n) = wsum (fun c => n1 (hit T (mcB R n c) n)) 20 := fun T => by
    unfold popc; rw [bcnt_w]; exact wsum_congr (fun c _ => by rw [vS_hit])
  rw [e, e]
  exact wsum_sub (fun c _ => n1_mono hit_mono)
theorem up_sum (R : Nat → Nat) (n b : Nat) : wsum (upS R n b) (1 * 2 ^ n) = wsum (fun c => TT n b (mcB R n c)) 20 := by
  unfold TT
  rw [← wsum_swap (fun S c => if S.testBit b = true then 0 else wgt n S * (n1 (hit (S ||| 1 * 2 ^ b) (mcB R n c) n) - n1 (hit S (mcB R n c) n))) 20]
  refine wsum_congr (fun S _ => ?_)
  unfold upS
  by_cases h : S.testBit b = true
  · simp only [h, if_true]; rw [wsum_0]
  · simp only [h]; rw [(pop_sub R n b S).2, wsum_mul]; rfl
theorem shs_w (R : Nat → Nat) (n b : Nat) : ∀ c, shs R n b c = wsum (fun c => if (R b).testBit c = true then 60 / shk R n c else 0) c
  | 0 => rfl
  | c + 1 => by unfold shs wsum; rw [shs_w R n b c]
theorem share_eq {R : Nat → Nat} {n b : Nat} (hn : n ≤ 5) (hb : b < n) : 60 * wsum (upS R n b) (1 * 2 ^ n) = fac n * shs R n b 20 := by
  rw [up_sum, shs_w, wsum_mul, wsum_mul]
  refine wsum_congr (fun c _ => ?_)
  have hm : mcB R n c < 32 := Nat.lt_of_lt_of_le (bset_lt _ _) (Nat.pow_le_pow_right (n := 2) (by decide) hn)
  rw [TT_eq hn hb hm, mcB_bit hb]
  have e : bcnt (fun j => (mcB R n c).testBit j) n = shk R n c := bcnt_congr (fun j hj => mcB_bit hj)
  rw [e]
theorem frc_eq {a b c d : Nat} (hb : 0 < b) (hd : 0 < d) (h : d * a = b * c) (u : Bool) : frc a b u = frc c d u := by
  have hg := Nat.gcd_pos_of_pos_right a hb
  have hg2 := Nat.gcd_pos_of_pos_right c hd
  obtain ⟨a', ha⟩ := Nat.gcd_dvd_left a b
  obtain ⟨b', hb'⟩ := Nat.gcd_dvd_right a b
  obtain ⟨c', hc⟩ := Nat.gcd_dvd_left c d
  obtain ⟨d', hd'⟩ := Nat.gcd_dvd_right c d
  have ea : a / Nat.gcd a b = a' := by conv => lhs; lhs; rw [ha]
                                       exact Nat.mul_div_cancel_left _ hg
  have eb : b / Nat.gcd a b = b' := by conv => lhs; lhs; rw [hb']
                                       exact Nat.mul_div_cancel_left _ hg
  have ec : c / Nat.gcd c d = c' := by conv => lhs; lhs; rw [hc]
                                       exact Nat.mul_div_cancel_left _ hg2
  have ed : d / Nat.gcd c d = d' := by conv => lhs; lhs; rw [hd']
                                       exact Nat.mul_div_cancel_left _ hg2
  have cab : Nat.Coprime a' b' := by have := Nat.coprime_div_gcd_div_gcd hg; rw [ea, eb] at this; exact this
  have ccd : Nat.Coprime c' d' := by have := Nat.coprime_div_gcd_div_gcd hg2; rw [ec, ed] at this; exact this
  have h2 : d' * a' = b' * c' := by
    have h3 : (Nat.gcd c d * d') * (Nat.gcd a b * a') = (Nat.gcd a b * b') * (Nat.gcd c d * c') := by rw [← hd', ← ha, ← hb', ← hc]; exact h
    have h4 : (Nat.gcd c d * Nat.gcd a b) * (d' * a') = (Nat.gcd c d * Nat.gcd a b) * (b' * c') := by
      calc _ = (Nat.gcd c d * d') * (Nat.gcd a b * a') := by simp only [Nat.mul_assoc, Nat.mul_left_comm, Nat.mul_comm]
        _ = _ := h3
        _ = _ := by simp only [Nat.mul_assoc, Nat.mul_left_comm, Nat.mul_comm]
    exact Nat.eq_of_mul_eq_mul_left (Nat.mul_pos hg2 hg) h4
  have d1 : d' ∣ b' := ccd.symm.dvd_of_dvd_mul_right ⟨a', h2.symm⟩
  have d2 : b' ∣ d' := cab.symm.dvd_of_dvd_mul_right ⟨c', h2⟩
  have ebd : b' = d' := Nat.dvd_antisymm d2 d1
  have hb0 : 0 < b' := Nat.pos_of_ne_zero (fun e => by rw [e] at hb'; omega)
  have eac : a' = c' := by rw [← ebd] at h2; exact Nat.eq_of_mul_eq_mul_left hb0 h2
  unfold frc
  rw [ea, eb, ec, ed, ebd, eac]
theorem fac_pos : ∀ n, 0 < fac n
  | 0 => by decide
  | n + 1 => Nat.mul_pos (fac_pos n) (by omega)
theorem fac_5 : ∀ n, n ≤ 5 → fac n ≤ 120 := by decide
set_option maxRecDepth 4000 in
theorem m_ways_l {X : zX} {mu : zmu} {nu : znu} {m : Nat} (hm : m ≤ 5) (d : Nat) : ∀ n i , i + n = m + 1 → 2 ≤ i → zJ X M_X9_ways d 0 0 4 [.int (nI m), .int (nI (fac (i - 1))), .int (nI i)] [] 86 (zEE (mu) (nu)) (zlift (zex (some (.int (nI (fac m)))) mu nu)) := by
  intro n
  induction n with
  | zero =>
    intro i  hi
    intro h2
    obtain rfl : i = m + 1 := by omega
    refine z_iload_n dX9_ways_4 rfl ?_
    refine z_iload_n dX9_ways_5 rfl ?_
    refine zn_icmp_gt (tgt := 19) dX9_ways_6 (by decide) (by omega) (by omega) (fun hc6 => ?_) (fun hc6 => by omega)
    refine z_iload_n dX9_ways_19 rfl ?_
    exact y_ireturn dX9_ways_20 rfl ⟨rfl, rfl, rfl⟩
  | succ n ih =>
    intro i  hi
    intro h2
    have e : fac (i - 1) * i = fac (i + 1 - 1) := by rw [show i + 1 - 1 = (i - 1) + 1 by omega]; show _ = fac (i - 1) * (i - 1 + 1); rw [show i - 1 + 1 = i by omega]
    refine z_iload_n dX9_ways_4 rfl ?_
    refine z_iload_n dX9_ways_5 rfl ?_
    refine zn_icmp_gt (tgt := 19) dX9_ways_6 (by decide) (by omega) (by omega) (fun hc6 => by omega) (fun hc6 => ?_)
    refine z_iload_n dX9_ways_9 rfl ?_
    refine z_iload_n dX9_ways_10 rfl ?_
    refine zn_imul dX9_ways_11 ?_
    rw [e]
    refine z_istore1 dX9_ways_12 rfl ?_
    refine zn_iinc2 dX9_ways_13 rfl ?_
    refine z_goto (tgt := 4) dX9_ways_16 (by decide) ?_
    exact ih (i + 1) (by omega) (by omega)
set_option maxRecDepth 4000 in
theorem m_ways {X : zX} {mu : zmu} {nu : znu} {m : Nat} (hm : m ≤ 5) (d : Nat) : zJ X M_X9_ways d 0 0 0 [.int (nI m), zu, zu] [] 86 (zEE (mu) (nu)) (zlift (zex (some (.int (nI (fac m)))) mu nu)) := by
  rcases Nat.eq_zero_or_pos m with rfl | h0
  · refine z_iconst (v := nI 1) dX9_ways_0 rfl ?_
    refine z_istore1 dX9_ways_1 rfl ?_
    refine z_iconst (v := nI 2) dX9_ways_2 rfl ?_
    refine z_istore2 dX9_ways_3 rfl ?_
    refine z_iload_n dX9_ways_4 rfl ?_
    refine z_iload_n dX9_ways_5 rfl ?_
    refine zn_icmp_gt (tgt := 19) dX9_ways_6 (by decide) (by omega) (by omega) (fun hc6 => ?_) (fun hc6 => by omega)
    refine z_iload_n dX9_ways_19 rfl ?_
    exact y_ireturn dX9_ways_20 rfl ⟨rfl, rfl, rfl⟩
  · refine z_iconst (v := nI 1) dX9_ways_0 rfl ?_
    refine z_istore1 dX9_ways_1 rfl ?_
    refine z_iconst (v := nI 2) dX9_ways_2 rfl ?_
    refine z_istore2 dX9_ways_3 rfl ?_
    exact m_ways_l hm d (m - 1) 2 (by omega) (by omega)
def S9 (mu mu1 : zmu) : Prop := ∀ x, x ≠ 81 → x ≠ 82 → x ≠ 83 → x ≠ 85 → mu1 x = mu x
theorem S9_tr {m1 m2 m3 : zmu} (h : S9 m1 m2) (g : S9 m2 m3) : S9 m1 m3 := fun x a b c d => (g x a b c d).trans (h x a b c d)
theorem S9_f {mu mu1 : zmu} (h : Sf mu mu1) : S9 mu mu1 := fun x a b c _ => h x a b c
theorem S9_u {mu : zmu} {k : Nat} {v : Int32} : S9 mu (u2 mu 85 k v) := fun x _ _ _ e => u2_rowa e
theorem Sm_9 {mu mu1 : zmu} (h : S9 mu mu1) : Sm mu mu1 := fun a j hl => congrFun (h a (by unfold live at hl; omega) (by unfold live at hl; omega) (by unfold live at hl; omega) (by unfold live at hl; omega)) j
def RA (A : AS) (j : Nat) : Nat := rch (aP A) (aN A).2 j ((aN A).1 j) 2
def VR (A : AS) (o : Nat) (mu : zmu) : Prop := ∀ S, S < 1 * 2 ^ pb (aP A) → mu 85 S = nI (vS (RA A) S o)
theorem RA_lt (A : AS) (j : Nat) : RA A j < 2 ^ 20 := rch_lt _ _ _ _ _
theorem pow5 {n : Nat} (h : n ≤ 5) : 1 * 2 ^ n ≤ 32 := by rw [Nat.one_mul]; exact Nat.pow_le_pow_right (n := 2) (by decide) h
set_option maxRecDepth 4000 in
theorem r_share3 {X : zX} {mu : zmu} {nu : znu} {A : AS} (hA : AV A) (hC : MR A mu nu) {b : Nat} {u : Bool} (hb : b < pb (aP A)) (d : Nat) : ∀ n i mu1, i + n = 1 * 2 ^ pb (aP A) → S9 mu mu1 → VR A (pb (aP A)) mu1 → zJ X M_X9_share (d + 10) 0 0 114 [.ref 66, .int (nI b), .int (b2i u), .int (nI (wsum (upS (RA A) (pb (aP A)) b) i)), .int (nI i), zu] [] 86 (zEE (mu1) (nu)) (zlift (QM (nI (frc (shA A b) 60 u), A) mu nu)) := by
  intro n
  induction n with
  | zero =>
    intro i mu1 hi
    have hp := hA.1
    have hV := hA.2.1
    have h20 : pw (aP A) * ph (aP A) ≤ 20 := hA.n
    have h5 := hA.b
    have h32 := pow5 h5
    intro hS hv
    obtain rfl : i = 1 * 2 ^ pb (aP A) := by omega
    have hse := share_eq (R := RA A) h5 hb
    have hf5 := fac_5 _ h5
    have hf0 := fac_pos (pb (aP A))
    have hsh := shs_le (RA A) (pb (aP A)) b 20
    have hmul : fac (pb (aP A)) * shs (RA A) (pb (aP A)) b 20 ≤ 120 * 1200 := Nat.mul_le_mul hf5 hsh
    have hfr := frc_eq hf0 (show 0 < 60 by decide) hse u
    refine z_iload dX9_share_114 rfl ?_
    refine z_iconst (v := nI 1) dX9_share_116 rfl ?_
    refine z_aload_n dX9_share_117 rfl ?_
    refine y_getIe dX9_share_118 lf_X9_78 rfl rfl (PM_m hC.1 (Sm_9 hS)).2.2.2.1 ?_
    refine zn_ishl dX9_share_121 (by omega) (by omega) ?_
    refine zn_icmp_ge (tgt := 194) dX9_share_122 (by decide) (by omega) (by omega) (fun hc122 => ?_) (fun hc122 => by exact absurd hc122 (Nat.lt_irrefl _))
    refine z_iload_n dX9_share_194 rfl ?_
    refine z_aload_n dX9_share_195 rfl ?_
    refine y_getIe dX9_share_196 lf_X9_78 rfl rfl (PM_m hC.1 (Sm_9 hS)).2.2.2.1 ?_
    refine y_callS1x (M' := M_X9_ways) dX9_share_199 lm_X9_257 cs_X9_ways (Nat.le_of_ble_eq_true rfl) (Nat.le_of_ble_eq_true rfl) rfl (m_ways h5 _) ?_
    refine z_iload_n dX9_share_202 rfl ?_
    refine y_callS3x (M' := M_X9_fraction) dX9_share_203 lm_X9_260 cs_X9_fraction (Nat.le_of_ble_eq_true rfl) (Nat.le_of_ble_eq_true rfl) rfl (m_fraction (by omega) (by omega) hf0 u _) ?_
    rw [hfr]
    exact y_ireturn dX9_share_206 rfl (QM_m hC (Sm_9 hS) rfl)
  | succ n ih =>
    intro i mu1 hi
    have hp := hA.1
    have hV := hA.2.1
    have h20 : pw (aP A) * ph (aP A) ≤ 20 := hA.n
    have h5 := hA.b
    have h32 := pow5 h5
    intro hS hv
    have hi2 : i < 2 ^ pb (aP A) := by rw [← Nat.one_mul (2 ^ pb (aP A))]; omega
    have hcq := cnt_eq (show i < 32 by omega)
    have hpo := pop_sub (RA A) (pb (aP A)) b i
    have hb2 : 1 * 2 ^ b < 2 ^ 32 := (by have : 1 * 2 ^ b ≤ 1 * 2 ^ 5 := Nat.mul_le_mul_left 1 (Nat.pow_le_pow_right (by decide) (by omega)); omega)
    have es : wsum (upS (RA A) (pb (aP A)) b) (i + 1) = wsum (upS (RA A) (pb (aP A)) b) i + upS (RA A) (pb (aP A)) b i := rfl
    refine z_iload dX9_share_114 rfl ?_
    refine z_iconst (v := nI 1) dX9_share_116 rfl ?_
    refine z_aload_n dX9_share_117 rfl ?_
    refine y_getIe dX9_share_118 lf_X9_78 rfl rfl (PM_m hC.1 (Sm_9 hS)).2.2.2.1 ?_
    refine zn_ishl dX9_share_121 (by omega) (by omega) ?_
    refine zn_icmp_ge (tgt := 194) dX9_share_122 (by decide) (by omega) (by omega) (fun hc122 => by omega) (fun hc122 => ?_)
    refine z_iload dX9_share_125 rfl ?_
    refine z_iload_n dX9_share_127 rfl ?_
    refine y_callS2x (M' := M_X9_has) dX9_share_128 lm_X9_134 cs_X9_has (Nat.le_of_ble_eq_true rfl) (Nat.le_of_ble_eq_true rfl) rfl (m_has (by omega) (by omega) _) ?_
    refine zb_if_ne (tgt := 188) dX9_share_131 (by decide) (fun hc131 => ?_) (fun hc131 => ?_)
    · refine zn_iinc4 dX9_share_188 rfl ?_
      refine z_goto (tgt := 114) dX9_share_191 (by decide) ?_
      have eu : upS (RA A) (pb (aP A)) b i = 0 := by unfold upS; rw [if_pos hc131]
      have es2 : wsum (upS (RA A) (pb (aP A)) b) (i + 1) = wsum (upS (RA A) (pb (aP A)) b) i := es.trans (by rw [eu]; rfl)
      rw [← es2]
      exact ih (i + 1) mu1 (by omega) hS hv
    · have hcb := cntb h5 hb hi2 hc131
      have hidx : i ||| 1 * 2 ^ b < 1 * 2 ^ pb (aP A) := by rw [Nat.one_mul (2 ^ pb (aP A))]; exact hcb.2
      have eu : upS (RA A) (pb (aP A)) b i = wgt (pb (aP A)) i * (popc (vS (RA A) (i ||| 1 * 2 ^ b) (pb (aP A))) - popc (vS (RA A) i (pb (aP A)))) := by unfold upS; rw [if_neg (fun e => Bool.noConfusion (hc131.symm.trans e))]
      refine z_iload dX9_share_134 rfl ?_
      refine y_callS1x (M' := M_X9_many) dX9_share_136 lm_X9_170 cs_X9_many (Nat.le_of_ble_eq_true rfl) (Nat.le_of_ble_eq_true rfl) rfl (m_many (by omega) _) ?_
      rw [hcq]
      refine z_istore5 dX9_share_139 rfl ?_
      refine z_iload_n dX9_share_141 rfl ?_
      refine z_iload dX9_share_142 rfl ?_
      refine y_callS1x (M' := M_X9_ways) dX9_share_144 lm_X9_257 cs_X9_ways (Nat.le_of_ble_eq_true rfl) (Nat.le_of_ble_eq_true rfl) rfl (m_ways (by omega) _) ?_
      refine z_aload_n dX9_share_147 rfl ?_
      refine y_getIe dX9_share_148 lf_X9_78 rfl rfl (PM_m hC.1 (Sm_9 hS)).2.2.2.1 ?_
      refine z_iconst (v := nI 1) dX9_share_151 rfl ?_
      refine zn_isub dX9_share_152 (by omega) ?_
      refine z_iload dX9_share_153 rfl ?_
      refine zn_isub dX9_share_155 (by omega) ?_
      refine y_callS1x (M' := M_X9_ways) dX9_share_156 lm_X9_257 cs_X9_ways (Nat.le_of_ble_eq_true rfl) (Nat.le_of_ble_eq_true rfl) rfl (m_ways (by omega) _) ?_
      refine zn_imul dX9_share_159 ?_
      refine z_aload_n dX9_share_160 rfl ?_
      refine y_getR dX9_share_161 lf_X9_72 rfl rfl ?_
      refine z_iload dX9_share_164 rfl ?_
      refine z_iconst (v := nI 1) dX9_share_166 rfl ?_
      refine z_iload_n dX9_share_167 rfl ?_
      refine zn_ishl dX9_share_168 (by omega) hb2 ?_
      refine zn_ior dX9_share_169 ?_
      refine y_ialde dX9_share_170 rfl (by decide) (by omega) (hv _ hidx) ?_
      refine y_callS1x (M' := M_X9_many) dX9_share_171 lm_X9_170 cs_X9_many (Nat.le_of_ble_eq_true rfl) (Nat.le_of_ble_eq_true rfl) rfl (m_many (by have := vS_lt (R := RA A) (S := i ||| 1 * 2 ^ b) (RA_lt A) (pb (aP A)); omega) _) ?_
      refine z_aload_n dX9_share_174 rfl ?_
      refine y_getR dX9_share_175 lf_X9_72 rfl rfl ?_
      refine z_iload dX9_share_178 rfl ?_
      refine y_ialde dX9_share_180 rfl (by decide) (by omega) (hv i (by omega)) ?_
      refine y_callS1x (M' := M_X9_many) dX9_share_181 lm_X9_170 cs_X9_many (Nat.le_of_ble_eq_true rfl) (Nat.le_of_ble_eq_true rfl) rfl (m_many (by have := vS_lt (R := RA A) (S := i) (RA_lt A) (pb (aP A)); omega) _) ?_
      refine zn_isub dX9_share_184 hpo.1 ?_
      refine zn_imul dX9_share_185 ?_
      refine zn_iadd dX9_share_186 ?_
      rw [show fac (cnt5 i) * fac (pb (aP A) - 1 - cnt5 i) = wgt (pb (aP A)) i from rfl, ← eu, ← es]
      refine z_istore3 dX9_share_187 rfl ?_
      refine zn_iinc4 dX9_share_188 rfl ?_
      refine z_goto (tgt := 114) dX9_share_191 (by decide) ?_
      exact z_sub (ih (i + 1) mu1 (by omega) hS hv) ⟨Or.inr rfl, Or.inr rfl, Or.inr rfl, Or.inr rfl, Or.inr rfl, Or.inl rfl, trivial⟩
set_option maxRecDepth 4000 in
theorem r_share2 {X : zX} {mu : zmu} {nu : znu} {A : AS} (hA : AV A) (hC : MR A mu nu) {b o : Nat} {u : Bool} {Q : zq} (ho : o < pb (aP A)) (d : Nat) (kk : ∀ mu9, S9 mu mu9 → VR A (o + 1) mu9 → zJ X M_X9_share (d + 10) 0 0 103 [.ref 66, .int (nI b), .int (b2i u), .int (nI o), .int (nI (RA A o)), .int (nI (1 * 2 ^ pb (aP A)))] [] 86 (zEE (mu9) (nu)) (zlift (Q))) : ∀ n i mu1, i + n = 1 * 2 ^ pb (aP A) → S9 mu mu1 → (∀ S, S < 1 * 2 ^ pb (aP A) → mu1 85 S = nI (vS (RA A) S (if S < i then o + 1 else o))) → zJ X M_X9_share (d + 10) 0 0 61 [.ref 66, .int (nI b), .int (b2i u), .int (nI o), .int (nI (RA A o)), .int (nI i)] [] 86 (zEE (mu1) (nu)) (zlift (Q)) := by
  intro n
  induction n with
  | zero =>
    intro i mu1 hi
    have hp := hA.1
    have hV := hA.2.1
    have h20 : pw (aP A) * ph (aP A) ≤ 20 := hA.n
    have h5 := hA.b
    have h32 := pow5 h5
    intro hS hv
    obtain rfl : i = 1 * 2 ^ pb (aP A) := by omega
    refine z_iload dX9_share_61 rfl ?_
    refine z_iconst (v := nI 1) dX9_share_63 rfl ?_
    refine z_aload_n dX9_share_64 rfl ?_
    refine y_getIe dX9_share_65 lf_X9_78 rfl rfl (PM_m hC.1 (Sm_9 hS)).2.2.2.1 ?_
    refine zn_ishl dX9_share_68 (by omega) (by omega) ?_
    refine zn_icmp_ge (tgt := 103) dX9_share_69 (by decide) (by omega) (by omega) (fun hc69 => ?_) (fun hc69 => by exact absurd hc69 (Nat.lt_irrefl _))
    exact kk mu1 hS (fun S hS2 => by rw [hv S hS2, if_pos hS2])
  | succ n ih =>
    intro i mu1 hi
    have hp := hA.1
    have hV := hA.2.1
    have h20 : pw (aP A) * ph (aP A) ≤ 20 := hA.n
    have h5 := hA.b
    have h32 := pow5 h5
    intro hS hv
    have hvi := hv i (by omega)
    rw [if_neg (Nat.lt_irrefl i)] at hvi
    refine z_iload dX9_share_61 rfl ?_
    refine z_iconst (v := nI 1) dX9_share_63 rfl ?_
    refine z_aload_n dX9_share_64 rfl ?_
    refine y_getIe dX9_share_65 lf_X9_78 rfl rfl (PM_m hC.1 (Sm_9 hS)).2.2.2.1 ?_
    refine zn_ishl dX9_share_68 (by omega) (by omega) ?_
    refine zn_icmp_ge (tgt := 103) dX9_share_69 (by decide) (by omega) (by omega) (fun hc69 => by omega) (fun hc69 => ?_)
    refine z_aload_n dX9_share_72 rfl ?_
    refine y_getR dX9_share_73 lf_X9_72 rfl rfl ?_
    refine z_iload dX9_share_76 rfl ?_
    refine z_dup2 dX9_share_78 rfl rfl ?_
    refine y_ialde dX9_share_79 rfl (by decide) (by omega) hvi ?_
    refine z_iload dX9_share_80 rfl ?_
    refine z_iload_n dX9_share_82 rfl ?_
    refine y_callS2x (M' := M_X9_has) dX9_share_83 lm_X9_134 cs_X9_has (Nat.le_of_ble_eq_true rfl) (Nat.le_of_ble_eq_true rfl) rfl (m_has (by omega) (by omega) _) ?_
    refine zb_if_eq (tgt := 94) dX9_share_86 (by decide) (fun hc86 => ?_) (fun hc86 => ?_)
    · have ev : vS (RA A) i (o + 1) = vS (RA A) i o ||| 0 := by show vS (RA A) i o ||| (if i.testBit o = true then RA A o else 0) = _; rw [hc86]; rfl
      refine z_iconst (v := nI 0) dX9_share_94 rfl ?_
      refine zn_ior dX9_share_95 ?_
      refine y_iast dX9_share_96 rfl (by decide) (by omega) ?_
      refine zn_iinc5 dX9_share_97 rfl ?_
      refine z_goto (tgt := 61) dX9_share_100 (by decide) ?_
      refine ih (i + 1) _ (by omega) (S9_tr hS S9_u) (fun S hS2 => ?_)
      by_cases hsi : S = i
      · rw [hsi, u2_s, if_pos (by omega), ev]
      · rw [u2_k hsi, hv S hS2]
        by_cases h1 : S < i
        · rw [if_pos h1, if_pos (by omega)]
        · rw [if_neg h1, if_neg (by omega)]
    · have ev : vS (RA A) i (o + 1) = vS (RA A) i o ||| RA A o := by show vS (RA A) i o ||| (if i.testBit o = true then RA A o else 0) = _; rw [if_pos hc86]
      refine z_iload dX9_share_89 rfl ?_
      refine z_goto (tgt := 95) dX9_share_91 (by decide) ?_
      refine zn_ior dX9_share_95 ?_
      refine y_iast dX9_share_96 rfl (by decide) (by omega) ?_
      refine zn_iinc5 dX9_share_97 rfl ?_
      refine z_goto (tgt := 61) dX9_share_100 (by decide) ?_
      refine ih (i + 1) _ (by omega) (S9_tr hS S9_u) (fun S hS2 => ?_)
      by_cases hsi : S = i
      · rw [hsi, u2_s, if_pos (by omega), ev]
      · rw [u2_k hsi, hv S hS2]
        by_cases h1 : S < i
        · rw [if_pos h1, if_pos (by omega)]
        · rw [if_neg h1, if_neg (by omega)]
set_option maxRecDepth 4000 in
theorem r_share1 {X : zX} {mu : zmu} {nu : znu} {A : AS} (hA : AV A) (hC : MR A mu nu) {b : Nat} {u : Bool} (hb : b < pb (aP A)) (d : Nat) : ∀ n i mu1, i + n = pb (aP A) → S9 mu mu1 → VR A i mu1 → zJ X M_X9_share (d + 10) 0 0 42 [.ref 66, .int (nI b), .int (b2i u), .int (nI i), zu, zu] [] 86 (zEE (mu1) (nu)) (zlift (QM (nI (frc (shA A b) 60 u), A) mu nu)) := by
  intro n
  induction n with
  | zero =>
    intro i mu1 hi
    have hp := hA.1
    have hV := hA.2.1
    have h20 : pw (aP A) * ph (aP A) ≤ 20 := hA.n
    have h5 := hA.b
    have h32 := pow5 h5
    intro hS hv
    obtain rfl : i = pb (aP A) := by omega
    refine z_iload_n dX9_share_42 rfl ?_
    refine z_aload_n dX9_share_43 rfl ?_
    refine y_getIe dX9_share_44 lf_X9_78 rfl rfl (PM_m hC.1 (Sm_9 hS)).2.2.2.1 ?_
    refine zn_icmp_ge (tgt := 109) dX9_share_47 (by decide) (by omega) (by omega) (fun hc47 => ?_) (fun hc47 => by omega)
    refine z_iconst (v := nI 0) dX9_share_109 rfl ?_
    refine z_istore3 dX9_share_110 rfl ?_
    refine z_iconst (v := nI 0) dX9_share_111 rfl ?_
    refine z_istore4 dX9_share_112 rfl ?_
    exact r_share3 hA hC hb d (1 * 2 ^ pb (aP A)) 0 mu1 (by omega) hS hv
  | succ n ih =>
    intro i mu1 hi
    have hp := hA.1
    have hV := hA.2.1
    have h20 : pw (aP A) * ph (aP A) ≤ 20 := hA.n
    have h5 := hA.b
    have h32 := pow5 h5
    intro hS hv
    obtain ⟨hM, hG, -⟩ := MR_s hC (Sm_9 hS)
    refine z_iload_n dX9_share_42 rfl ?_
    refine z_aload_n dX9_share_43 rfl ?_
    refine y_getIe dX9_share_44 lf_X9_78 rfl rfl (PM_m hC.1 (Sm_9 hS)).2.2.2.1 ?_
    refine zn_icmp_ge (tgt := 109) dX9_share_47 (by decide) (by omega) (by omega) (fun hc47 => by omega) (fun hc47 => ?_)
    refine z_aload_n dX9_share_50 rfl ?_
    refine z_iload_n dX9_share_51 rfl ?_
    refine z_iconst (v := nI 2) dX9_share_52 rfl ?_
    refine y_callV2 (M' := M_X9_reachOf) dX9_share_53 lm_X9_221 cv_X9_reachOf rfl (Nat.le_of_ble_eq_true rfl) (Nat.le_of_ble_eq_true rfl) rfl (m_reachOf hp hM hG hV (b := i) (by omega) (n0 := 2) (by decide) _) (fun r mu2 nu2 hq => ?_)
    obtain ⟨rfl, rfl, hF⟩ := hq
    rw [show rch (aP A) (aN A).2 i ((aN A).1 i) 2 = RA A i from rfl]
    refine z_istore4 dX9_share_56 rfl ?_
    refine z_iconst (v := nI 0) dX9_share_58 rfl ?_
    refine z_istore5 dX9_share_59 rfl ?_
    refine r_share2 hA hC (o := i) (by omega) d (fun mu9 hS9 hv9 => ?_) (1 * 2 ^ pb (aP A)) 0 mu2 (by omega) (S9_tr hS (S9_f hF)) (fun S hS2 => by rw [if_neg (Nat.not_lt_zero _), hF 85 (by decide) (by decide) (by decide)]; exact hv S hS2)
    refine zn_iinc3 dX9_share_103 rfl ?_
    refine z_goto (tgt := 42) dX9_share_106 (by decide) ?_
    exact z_sub (ih (i + 1) mu9 (by omega) hS9 hv9) ⟨Or.inr rfl, Or.inr rfl, Or.inr rfl, Or.inr rfl, Or.inl rfl, Or.inl rfl, trivial⟩
set_option maxRecDepth 4000 in
theorem r_share0 {X : zX} {mu : zmu} {nu : znu} {A : AS} (hA : AV A) (hC : MR A mu nu) {b : Nat} {u : Bool} (hb : b < pb (aP A)) (d : Nat) : ∀ n i mu1, i + n = 1 * 2 ^ pb (aP A) → S9 mu mu1 → (∀ S, S < i → mu1 85 S = nI 0) → zJ X M_X9_share (d + 10) 0 0 17 [.ref 66, .int (nI b), .int (b2i u), .int (nI i), zu, zu] [] 86 (zEE (mu1) (nu)) (zlift (QM (nI (frc (shA A b) 60 u), A) mu nu)) := by
  intro n
  induction n with
  | zero =>
    intro i mu1 hi
    have hp := hA.1
    have hV := hA.2.1
    have h20 : pw (aP A) * ph (aP A) ≤ 20 := hA.n
    have h5 := hA.b
    have h32 := pow5 h5
    intro hS hv
    obtain rfl : i = 1 * 2 ^ pb (aP A) := by omega
    refine z_iload_n dX9_share_17 rfl ?_
    refine z_iconst (v := nI 1) dX9_share_18 rfl ?_
    refine z_aload_n dX9_share_19 rfl ?_
    refine y_getIe dX9_share_20 lf_X9_78 rfl rfl (PM_m hC.1 (Sm_9 hS)).2.2.2.1 ?_
    refine zn_ishl dX9_share_23 (by omega) (by omega) ?_
    refine zn_icmp_ge (tgt := 40) dX9_share_24 (by decide) (by omega) (by omega) (fun hc24 => ?_) (fun hc24 => by exact absurd hc24 (Nat.lt_irrefl _))
    refine z_iconst (v := nI 0) dX9_share_40 rfl ?_
    refine z_istore3 dX9_share_41 rfl ?_
    exact r_share1 hA hC hb d (pb (aP A)) 0 mu1 (by omega) hS hv
  | succ n ih =>
    intro i mu1 hi
    have hp := hA.1
    have hV := hA.2.1
    have h20 : pw (aP A) * ph (aP A) ≤ 20 := hA.n
    have h5 := hA.b
    have h32 := pow5 h5
    intro hS hv
    refine z_iload_n dX9_share_17 rfl ?_
    refine z_iconst (v := nI 1) dX9_share_18 rfl ?_
    refine z_aload_n dX9_share_19 rfl ?_
    refine y_getIe dX9_share_20 lf_X9_78 rfl rfl (PM_m hC.1 (Sm_9 hS)).2.2.2.1 ?_
    refine zn_ishl dX9_share_23 (by omega) (by omega) ?_
    refine zn_icmp_ge (tgt := 40) dX9_share_24 (by decide) (by omega) (by omega) (fun hc24 => by omega) (fun hc24 => ?_)
    refine z_aload_n dX9_share_27 rfl ?_
    refine y_getR dX9_share_28 lf_X9_72 rfl rfl ?_
    refine z_iload_n dX9_share_31 rfl ?_
    refine z_iconst (v := nI 0) dX9_share_32 rfl ?_
    refine y_iast dX9_share_33 rfl (by decide) (by omega) ?_
    refine zn_iinc3 dX9_share_34 rfl ?_
    refine z_goto (tgt := 17) dX9_share_37 (by decide) ?_
    refine ih (i + 1) _ (by omega) (S9_tr hS S9_u) (fun S hS2 => ?_)
    by_cases hsi : S = i
    · rw [hsi, u2_s]
    · rw [u2_k hsi]; exact hv S (by omega)
set_option maxRecDepth 4000 in
theorem r_share {X : zX} {mu : zmu} {nu : znu} {A : AS} (hA : AV A) (hC : MR A mu nu) (x : Int32) (u : Bool) (d : Nat) : zJ X M_X9_share (d + 10) 0 0 0 [.ref 66, .int x, .int (b2i u), zu, zu, zu] [] 86 (zEE (mu) (nu)) (zlift (QM (f_share A x u) mu nu)) := by
  have hp := hA.1
  have hV := hA.2.1
  have h20 : pw (aP A) * ph (aP A) ≤ 20 := hA.n
  have h5 := hA.b
  refine z_aload_n dX9_share_0 rfl ?_
  refine z_iconst (v := nI 0) dX9_share_1 rfl ?_
  refine y_putI dX9_share_2 lp_X9_75 rfl rfl ?_
  refine zJ_mono (Q := QM (f_share A x u) (u2 mu 66 0 (nI 0)) nu) ?_ QM_th
  replace hC := MR_m hC (Sm_th (mu := mu) (v := nI 0)) rfl
  generalize u2 mu 66 0 (nI 0) = mu at hC ⊢
  obtain ⟨hM, hG, hB, hKe, hE, hT, hD⟩ := id hC
  refine z_aload_n dX9_share_5 rfl ?_
  refine z_iload_n dX9_share_6 rfl ?_
  refine y_callV1x (M' := M_X9_noBoy) dX9_share_7 lm_X9_191 cv_X9_noBoy rfl (Nat.le_of_ble_eq_true rfl) (Nat.le_of_ble_eq_true rfl) rfl (m_noBoy hp hM x _) ?_
  refine zb_if_eq (tgt := 15) dX9_share_10 (by decide) (fun hc10 => ?_) (fun hc10 => ?_)
  · have g : inr x (pb (aP A)) = true := by simpa using hc10
    obtain ⟨b, hb, rfl⟩ := inr_t (show inr x (pb (aP A)) = true from g) (by omega)
    refine z_iconst (v := nI 0) dX9_share_15 rfl ?_
    refine z_istore3 dX9_share_16 rfl ?_
    have e : f_share A (nI b) u = (nI (frc (shA A b) 60 u), A) := by simp [f_share, g, ix_nI (show b < 2 ^ 31 by omega)]
    rw [e]
    exact r_share0 hA hC hb d (1 * 2 ^ pb (aP A)) 0 mu (by omega) (fun _ _ _ _ _ => rfl) (fun S hS => absurd hS (Nat.not_lt_zero _))
  · have g : inr x (pb (aP A)) = false := by simpa using hc10
    refine z_iconst (v := -1) dX9_share_13 rfl ?_
    exact y_ireturn dX9_share_14 rfl (QM_rf hC (by simp [f_share, g]))
