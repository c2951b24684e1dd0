set_option maxRecDepth 4000 in
theorem m_nextOf {X : zX} {mu : zmu} {nu : znu} {x : Nat} (h0 : 0 < x) (hx : x < 2 ^ 20) (d : Nat) : zJ X M_X9_nextOf d 0 0 0 [.int (nI x), zu, zu] [] 86 (zEE (mu) (nu)) (zlift (zex (some (.int (nI (nxo x)))) mu nu)) := by
  obtain ⟨a0, k, m, e1, e2, e3, e4, hkm⟩ := nxo_at h0 hx
  have hk0 : 0 < 2 ^ k := Nat.pow_pos (by decide)
  have hk1 : 2 ^ k ≤ 2 ^ 20 := Nat.pow_le_pow_right (by decide) (by omega)
  have hx1 : (2 ^ (m + 2) - 1) * 2 ^ k < 2 ^ 31 := by
    have h1 : (2 ^ (m + 2) - 1) * 2 ^ k ≤ 2 ^ (m + 2) * 2 ^ k := Nat.mul_le_mul_right _ (Nat.sub_le _ _)
    have h2 : 2 ^ (m + 2) * 2 ^ k = 2 ^ (m + 2 + k) := (Nat.pow_add 2 (m + 2) k).symm
    have h3 : 2 ^ (m + 2 + k) ≤ 2 ^ 21 := Nat.pow_le_pow_right (by decide) (by omega)
    omega
  have hx2 : (x ^^^ (x + (x &&& (2 ^ 32 - x)))) < 2 ^ 31 := by rw [e2, e3]; exact hx1
  have hx3 : (x ^^^ (x + (x &&& (2 ^ 32 - x)))) / (x &&& (2 ^ 32 - x)) < 2 ^ 31 := Nat.lt_of_le_of_lt (Nat.div_le_self _ _) hx2
  refine z_iload_n dX9_nextOf_0 rfl ?_
  refine z_iload_n dX9_nextOf_1 rfl ?_
  refine z_ineg dX9_nextOf_2 ?_
  rw [nI_neg (by omega)]
  refine zn_iand dX9_nextOf_3 ?_
  refine z_istore1 dX9_nextOf_4 rfl ?_
  refine z_iload_n dX9_nextOf_5 rfl ?_
  refine z_iload_n dX9_nextOf_6 rfl ?_
  refine zn_iadd dX9_nextOf_7 ?_
  refine z_istore2 dX9_nextOf_8 rfl ?_
  refine z_iload_n dX9_nextOf_9 rfl ?_
  refine z_iload_n dX9_nextOf_10 rfl ?_
  refine z_iload_n dX9_nextOf_11 rfl ?_
  refine zn_ixor dX9_nextOf_12 ?_
  refine z_iload_n dX9_nextOf_13 rfl ?_
  refine zn_idiv dX9_nextOf_14 hx2 (by rw [e2]; exact hk0) (by rw [e2]; omega) ?_
  refine z_iconst (v := nI 2) dX9_nextOf_15 rfl ?_
  refine zn_ishr dX9_nextOf_16 (by omega) hx3 ?_
  refine zn_ior dX9_nextOf_17 ?_
  exact y_ireturn dX9_nextOf_18 rfl ⟨rfl, rfl, rfl⟩
/-! the fewest cells, as the reference finds them -/
theorem pc_min : ∀ (n : Nat) {x m : Nat}, x < 2 ^ n → pcn n x = m → 2 ^ m - 1 ≤ x
  | 0, x, m, _, h => by
    have : m = 0 := h.symm
    subst this; simp
  | n + 1, x, m, hx, h => by
    rcases Nat.lt_or_ge x (2 ^ n) with g | g
    · exact pc_min n g (by rw [← h]; exact (pcn_le g (by omega)).symm)
    · obtain ⟨r, rfl⟩ : ∃ r, x = 2 ^ n + r := ⟨x - 2 ^ n, by omega⟩
      have hr : r < 2 ^ n := by rw [Nat.pow_succ] at hx; omega
      have hs := pcn_split hr 1 1
      rw [Nat.mul_one, h] at hs
      have h1 : pcn 1 1 = 1 := by decide
      have ih := pc_min n hr rfl
      have hle : pcn n r ≤ n := bcnt_le _ n
      have hp : 2 ^ pcn n r ≤ 2 ^ n := Nat.pow_le_pow_right (by decide) hle
      rw [hs, h1, Nat.pow_succ]
      omega
def alN (p : PT) (P : Nat → Nat) : Nat := (1 * 2 ^ pb p - 1) &&& (bset (hmf p P) (pb p) ^^^ 4294967295)
def hvv (p : PT) (P : Nat → Nat) (S : Nat) : Nat → Nat
  | 0 => 0
  | k + 1 => hvv p P S k ||| (if S.testBit k = true then hrs p P k &&& alN p P else 0)
theorem ones_bit {b : Nat} (h : b < 32) : (4294967295 : Nat).testBit b = true := by
  have := Nat.testBit_two_pow_sub_one 32 b
  rw [show (4294967295 : Nat) = 2 ^ 32 - 1 by decide, this]; simp [h]
theorem alN_bit {p : PT} (h5 : pb p ≤ 5) (P : Nat → Nat) (b : Nat) : (alN p P).testBit b = (decide (b < pb p) && !hmf p P b) := by
  unfold alN
  rw [Nat.testBit_and, Nat.one_mul, Nat.testBit_two_pow_sub_one, Nat.testBit_xor, bset_bit]
  by_cases h : b < pb p
  · rw [ones_bit (by omega)]; simp [h]
  · simp [h]
theorem alN_lt {p : PT} (h5 : pb p ≤ 5) (P : Nat → Nat) : alN p P < 32 := by
  have h1 : alN p P ≤ 1 * 2 ^ pb p - 1 := Nat.and_le_left
  have h2 : 2 ^ pb p ≤ 2 ^ 5 := Nat.pow_le_pow_right (by decide) h5
  have h3 : 0 < 2 ^ pb p := Nat.pow_pos (by decide)
  omega
theorem hvv_lt {p : PT} (hp : PV p) (P : Nat → Nat) (S : Nat) : ∀ k, hvv p P S k < 32
  | 0 => by show 0 < 32; decide
  | k + 1 => by
    unfold hvv
    refine Nat.or_lt_two_pow (n := 5) (hvv_lt hp P S k) ?_
    split
    · exact Nat.lt_of_le_of_lt Nat.and_le_left (hrs_lt hp P k)
    · decide
theorem hvv_bit {p : PT} {P : Nat → Nat} {S b : Nat} : ∀ {k : Nat}, (hvv p P S k).testBit b = true ↔ ∃ c, c < k ∧ S.testBit c = true ∧ (hrs p P c).testBit b = true ∧ (alN p P).testBit b = true
  | 0 => by simp [hvv]
  | k + 1 => by
    have ih := hvv_bit (p := p) (P := P) (S := S) (b := b) (k := k)
    unfold hvv
    rw [Nat.testBit_or, Bool.or_eq_true, ih]
    constructor
    · rintro (⟨c, h1, h2, h3, h4⟩ | h)
      · exact ⟨c, by omega, h2, h3, h4⟩
      · by_cases hk : S.testBit k = true
        · rw [if_pos hk, Nat.testBit_and, Bool.and_eq_true] at h; exact ⟨k, by omega, hk, h.1, h.2⟩
        · rw [if_neg hk] at h; simp at h
    · rintro ⟨c, h1, h2, h3, h4⟩
      by_cases e : c = k
      · subst e; right; rw [if_pos h2, Nat.testBit_and, h3, h4]; rfl
      · exact Or.inl ⟨c, by omega, h2, h3, h4⟩
theorem hvv_iff {p : PT} (hp : PV p) {P : Nat → Nat} {S : Nat} : hvv p P S (pw p * ph p) = alN p P ↔ unr (hmb p P) (hrs p P) (pw p * ph p) S = 2 ^ pb p - 1 := by
  have h5 : pb p ≤ 5 := hp.2.2.2.2.2.1
  constructor
  · intro h
    apply Nat.eq_of_testBit_eq
    intro b
    rw [full_bit]
    by_cases hb : b < pb p
    · rw [decide_eq_true hb, unr_bit]
      cases hm : hmf p P b with
      | true => exact Or.inl (by rw [hmb, bset_bit]; simp [hb, hm])
      | false =>
        have h1 : (hvv p P S (pw p * ph p)).testBit b = true := by rw [h, alN_bit h5]; simp [hb, hm]
        obtain ⟨c, a1, a2, a3, -⟩ := hvv_bit.mp h1
        exact Or.inr ⟨c, a1, a2, a3⟩
    · rw [decide_eq_false hb]
      cases hx : (unr (hmb p P) (hrs p P) (pw p * ph p) S).testBit b with
      | false => rfl
      | true =>
        rw [unr_bit] at hx
        rcases hx with g | ⟨c, _, _, g⟩
        · rw [hmb, bset_bit] at g; simp [hb] at g
        · rw [hrs, bset_bit] at g; simp [hb] at g
  · intro h
    apply Nat.eq_of_testBit_eq
    intro b
    apply Bool.eq_iff_iff.mpr
    rw [hvv_bit]
    constructor
    · rintro ⟨c, -, -, -, h4⟩; exact h4
    · intro h4
      have h4' := h4
      rw [alN_bit h5] at h4'
      simp only [Bool.and_eq_true, decide_eq_true_eq, Bool.not_eq_true'] at h4'
      obtain ⟨hb, hm⟩ := h4'
      have h6 : (unr (hmb p P) (hrs p P) (pw p * ph p) S).testBit b = true := by rw [h, full_bit]; exact decide_eq_true hb
      rw [unr_bit] at h6
      rcases h6 with g | ⟨c, a1, a2, a3⟩
      · rw [hmb, bset_bit] at g; simp [hm] at g
      · exact ⟨c, a1, a2, a3, h4⟩
/-- each boy's own cell -/
def ownS (P : Nat → Nat) : Nat → Nat
  | 0 => 0
  | b + 1 => ownS P b ||| 2 ^ (P b % 20)
theorem bcnt_or {f : Nat → Bool} {k : Nat} : ∀ n, bcnt (fun i => f i || decide (i = k)) n ≤ bcnt f n + (if k < n then 1 else 0)
  | 0 => by simp [bcnt]
  | n + 1 => by
    have ih := bcnt_or (f := f) (k := k) n
    have e1 : bcnt (fun i => f i || decide (i = k)) (n + 1) = bcnt (fun i => f i || decide (i = k)) n + (if (f n || decide (n = k)) = true then 1 else 0) := bcnt_s _ n
    rw [e1, bcnt_s]
    by_cases h1 : k < n
    · have h2 : k < n + 1 := by omega
      have h3 : decide (n = k) = false := by simp; omega
      rw [if_pos h1] at ih; rw [if_pos h2, h3, Bool.or_false]; omega
    · rw [if_neg h1] at ih
      by_cases h2 : n = k
      · have h3 : k < n + 1 := by omega
        rw [if_pos h3]
        split <;> split <;> omega
      · have h3 : decide (n = k) = false := by simp [h2]
        have h4 : ¬ k < n + 1 := by omega
        rw [h3, Bool.or_false, if_neg h4]; omega
theorem popc_or {x k : Nat} : popc (x ||| 2 ^ k) ≤ popc x + 1 := by
  have h := bcnt_or (f := fun i => x.testBit i) (k := k) 20
  unfold popc
  have e : bcnt (fun i => (x ||| 2 ^ k).testBit i) 20 = bcnt (fun i => x.testBit i || decide (i = k)) 20 := bcnt_congr (fun i _ => by
    rw [Nat.testBit_or, Nat.testBit_two_pow]; congr 1; simp [eq_comm])
  rw [e]
  split at h <;> omega
theorem own_pc (P : Nat → Nat) : ∀ b, popc (ownS P b) ≤ b
  | 0 => by show popc 0 ≤ 0; decide
  | b + 1 => by
    have := own_pc P b
    have h : popc (ownS P b ||| 2 ^ (P b % 20)) ≤ popc (ownS P b) + 1 := popc_or
    show popc (ownS P b ||| 2 ^ (P b % 20)) ≤ b + 1
    omega
theorem own_lt {P : Nat → Nat} {n : Nat} : ∀ b, (∀ i, i < b → P i % 20 < n) → ownS P b < 2 ^ n
  | 0, _ => Nat.pow_pos (by decide)
  | b + 1, h => Nat.or_lt_two_pow (own_lt b (fun i hi => h i (by omega))) (Nat.pow_lt_pow_right (by decide) (h b (by omega)))
theorem own_bit {P : Nat → Nat} {i : Nat} : ∀ b, i < b → (ownS P b).testBit (P i % 20) = true
  | b + 1, h => by
    show (ownS P b ||| 2 ^ (P b % 20)).testBit (P i % 20) = true
    rw [Nat.testBit_or]
    by_cases e : i = b
    · subst e; rw [Nat.testBit_two_pow_self, Bool.or_true]
    · rw [own_bit b (by omega)]; rfl
theorem own_full {p : PT} {P : Nat → Nat} {cut : Nat} (hV : SV p P cut) : unr (hmb p P) (hrs p P) (pw p * ph p) (ownS P (pb p)) = 2 ^ pb p - 1 := by
  apply Nat.eq_of_testBit_eq
  intro b
  rw [full_bit]
  by_cases hb : b < pb p
  · rw [decide_eq_true hb, unr_bit]
    refine Or.inr ⟨P b % 20, (hV.1 b hb).2, own_bit _ hb, ?_⟩
    rw [hrs, bset_bit]; simp [hb, hrb, hear_self]
  · rw [decide_eq_false hb]
    cases hx : (unr (hmb p P) (hrs p P) (pw p * ph p) (ownS P (pb p))).testBit b with
    | false => rfl
    | true =>
      rw [unr_bit] at hx
      rcases hx with h | ⟨c, _, _, h⟩
      · rw [hmb, bset_bit] at h; simp [hb] at h
      · rw [hrs, bset_bit] at h; simp [hb] at h
/-- all that cover have more than n bits, or n and are not below S -/
def Exc (p : PT) (P : Nat → Nat) (n S : Nat) : Prop := ∀ S', S' < 2 ^ (pw p * ph p) → unr (hmb p P) (hrs p P) (pw p * ph p) S' = 2 ^ pb p - 1 → n < popc S' ∨ (popc S' = n ∧ S ≤ S')
theorem Exc_cv {p : PT} (hp : PV p) {P : Nat → Nat} {n S : Nat} (h : Exc p P n S) (hS : S < 2 ^ (pw p * ph p)) (hc : pcn 32 S = n) (hu : hvv p P S (pw p * ph p) = alN p P) : CVb p P S := by
  have h20 := hp.n20
  have hle : ∀ S', S' < 2 ^ (pw p * ph p) → S' < 2 ^ 20 := fun S' g => Nat.lt_of_lt_of_le g (Nat.pow_le_pow_right (by decide) h20)
  refine ⟨hS, (hvv_iff hp).mp hu, fun S' h1 h2 => ?_⟩
  have g1 := hle S hS
  have g2 := hle S' h1
  rw [popc_32 g1] at hc
  unfold key
  rcases h S' h1 h2 with g | ⟨g, g'⟩
  · rw [hc]; omega
  · rw [hc, g]; omega
theorem Exc_s {p : PT} (hp : PV p) {P : Nat → Nat} {n S : Nat} (h : Exc p P n S) (h0 : 0 < S) (hS : S < 2 ^ 20) (hc : pcn 32 S = n) (hu : ¬ hvv p P S (pw p * ph p) = alN p P) : Exc p P n (nxo S) := by
  intro S' h1 h2
  have h20 := hp.n20
  have g2 : S' < 2 ^ 20 := Nat.lt_of_lt_of_le h1 (Nat.pow_le_pow_right (by decide) h20)
  rcases h S' h1 h2 with g | ⟨g, g'⟩
  · exact Or.inl g
  · right
    refine ⟨g, ?_⟩
    have hne : S ≠ S' := fun e => hu ((hvv_iff hp).mpr (by rw [e]; exact h2))
    refine Nat.le_of_not_lt (fun hlt => ?_)
    exact (nxo_pc h0 hS).2 S' (by omega) hlt (by rw [popc_32 g2, g, hc])
theorem Exc_n {p : PT} (hp : PV p) {P : Nat → Nat} {n : Nat} (h : ∀ S', S' < 2 ^ (pw p * ph p) → unr (hmb p P) (hrs p P) (pw p * ph p) S' = 2 ^ pb p - 1 → n < popc S') : Exc p P (n + 1) (1 * 2 ^ (n + 1) - 1) := by
  intro S' h1 h2
  have h20 := hp.n20
  have g2 : S' < 2 ^ 20 := Nat.lt_of_lt_of_le h1 (Nat.pow_le_pow_right (by decide) h20)
  have := h S' h1 h2
  rcases Nat.lt_or_ge (n + 1) (popc S') with g | g
  · exact Or.inl g
  · right
    have e : popc S' = n + 1 := by omega
    refine ⟨e, ?_⟩
    rw [Nat.one_mul]
    exact pc_min 20 g2 e
theorem Exc_0 {p : PT} (hp : PV p) {P : Nat → Nat} (ha : ¬ alN p P = 0) : ∀ S', S' < 2 ^ (pw p * ph p) → unr (hmb p P) (hrs p P) (pw p * ph p) S' = 2 ^ pb p - 1 → 0 < popc S' := by
  intro S' h1 h2
  have h20 := hp.n20
  have g2 : S' < 2 ^ 20 := Nat.lt_of_lt_of_le h1 (Nat.pow_le_pow_right (by decide) h20)
  refine pcn_pos (q := 20) g2 (Nat.pos_of_ne_zero (fun e => ha ?_))
  rw [← (hvv_iff hp).mpr h2, e]
  have : ∀ k, hvv p P 0 k = 0 := by
    intro k
    induction k with
    | zero => rfl
    | succ k ih => unfold hvv; rw [ih, Nat.zero_testBit]; simp
  exact this _
theorem cv_0 {p : PT} (hp : PV p) {P : Nat → Nat} (ha : alN p P = 0) : CVb p P 0 := by
  have : ∀ k, hvv p P 0 k = 0 := by
    intro k
    induction k with
    | zero => rfl
    | succ k ih => unfold hvv; rw [ih, Nat.zero_testBit]; simp
  refine ⟨Nat.pow_pos (by decide), (hvv_iff hp).mp (by rw [this, ha]), fun S' _ _ => ?_⟩
  have : key 0 = 0 := by decide
  omega
set_option maxRecDepth 4000 in
theorem m_few5 {X : zX} {mu : zmu} {nu : znu} {p : PT} {s : SC} (hp : PV p) (hM : PM p mu) (hval : ∀ c, c < pw p * ph p → mu 85 c = nI (hrs p s.1 c &&& alN p s.1)) {Q : zq} {S nn : Nat} (hS : S < 2 ^ 20) (d : Nat) (kk : zJ X M_X9_fewest (d + 5) 0 0 183 [.ref 66, .int (nI (alN p s.1)), .int (nI (nn)), .int (nI (S)), .int (nI (hvv p s.1 S (pw p * ph p))), .int (nI (pw p * ph p))] [] 86 (zEE (mu) (nu)) (zlift (Q))) : ∀ n i , i + n = pw p * ph p → zJ X M_X9_fewest (d + 5) 0 0 138 [.ref 66, .int (nI (alN p s.1)), .int (nI (nn)), .int (nI (S)), .int (nI (hvv p s.1 S i)), .int (nI (i))] [] 86 (zEE (mu) (nu)) (zlift (Q)) := by
  intro n
  induction n with
  | zero =>
    intro i  hi
    have h20 := hp.n20
    have h5 : pb p ≤ 5 := hp.2.2.2.2.2.1
    have hw5 := hp.2.1
    have hh4 := hp.2.2.2.1
    obtain rfl : i = pw p * ph p := by omega
    refine z_iload dX9_fewest_138 rfl ?_
    refine z_aload_n dX9_fewest_140 rfl ?_
    refine y_getIe dX9_fewest_141 lf_X9_13 rfl rfl hM.1 ?_
    refine z_aload_n dX9_fewest_144 rfl ?_
    refine y_getIe dX9_fewest_145 lf_X9_17 rfl rfl hM.2.1 ?_
    refine zn_imul dX9_fewest_148 ?_
    refine zn_icmp_ge (tgt := 183) dX9_fewest_149 (by decide) (by omega) (by omega) (fun hc149 => ?_) (fun hc149 => by exact absurd hc149 (Nat.lt_irrefl _))
    exact kk
  | succ n ih =>
    intro i  hi
    have h20 := hp.n20
    have h5 : pb p ≤ 5 := hp.2.2.2.2.2.1
    have hw5 := hp.2.1
    have hh4 := hp.2.2.2.1
    refine z_iload dX9_fewest_138 rfl ?_
    refine z_aload_n dX9_fewest_140 rfl ?_
    refine y_getIe dX9_fewest_141 lf_X9_13 rfl rfl hM.1 ?_
    refine z_aload_n dX9_fewest_144 rfl ?_
    refine y_getIe dX9_fewest_145 lf_X9_17 rfl rfl hM.2.1 ?_
    refine zn_imul dX9_fewest_148 ?_
    refine zn_icmp_ge (tgt := 183) dX9_fewest_149 (by decide) (by omega) (by omega) (fun hc149 => by omega) (fun hc149 => ?_)
    refine z_iload dX9_fewest_152 rfl ?_
    refine z_iload_n dX9_fewest_154 rfl ?_
    refine z_iload dX9_fewest_155 rfl ?_
    refine y_callS2x (M' := M_X9_has) dX9_fewest_157 lm_X9_134 cs_X9_has (Nat.le_of_ble_eq_true rfl) (Nat.le_of_ble_eq_true rfl) rfl (m_has (by omega) (by omega) _) ?_
    refine zb_if_eq (tgt := 173) dX9_fewest_160 (by decide) (fun hc160 => ?_) (fun hc160 => ?_)
    · have ev : hvv p s.1 S (i + 1) = hvv p s.1 S i ||| 0 := by show hvv p s.1 S i ||| (if S.testBit i = true then hrs p s.1 i &&& alN p s.1 else 0) = _; rw [hc160]; rfl
      refine z_iconst (v := nI 0) dX9_fewest_173 rfl ?_
      refine zn_ior dX9_fewest_174 ?_
      rw [← ev]
      refine z_istore4 dX9_fewest_175 rfl ?_
      refine zn_iinc5 dX9_fewest_177 rfl ?_
      refine z_goto (tgt := 138) dX9_fewest_180 (by decide) ?_
      exact ih (i + 1) (by omega)
    · have ev : hvv p s.1 S (i + 1) = hvv p s.1 S i ||| (hrs p s.1 i &&& alN p s.1) := by show hvv p s.1 S i ||| (if S.testBit i = true then hrs p s.1 i &&& alN p s.1 else 0) = _; rw [if_pos hc160]
      refine z_aload_n dX9_fewest_163 rfl ?_
      refine y_getR dX9_fewest_164 lf_X9_72 rfl rfl ?_
      refine z_iload dX9_fewest_167 rfl ?_
      refine y_ialde dX9_fewest_169 rfl (by decide) (by omega) (hval i (by omega)) ?_
      refine z_goto (tgt := 174) dX9_fewest_170 (by decide) ?_
      refine zn_ior dX9_fewest_174 ?_
      rw [← ev]
      refine z_istore4 dX9_fewest_175 rfl ?_
      refine zn_iinc5 dX9_fewest_177 rfl ?_
      refine z_goto (tgt := 138) dX9_fewest_180 (by decide) ?_
      exact ih (i + 1) (by omega)
set_option maxRecDepth 4000 in
theorem m_few4 {X : zX} {mu : zmu} {nu : znu} {p : PT} {s : SC} (hp : PV p) (hM : PM p mu) (hval : ∀ c, c < pw p * ph p → mu 85 c = nI (hrs p s.1 c &&& alN p s.1)) {Q : zq} {nn : Nat} (d : Nat) (hQ : ∀ S, CVb p s.1 S → Q (some (.int (nI S))) mu nu) (kk : (∀ S', S' < 2 ^ (pw p * ph p) → unr (hmb p s.1) (hrs p s.1) (pw p * ph p) S' = 2 ^ pb p - 1 → nn < popc S') → zJ X M_X9_fewest (d + 5) 0 0 199 [.ref 66, .int (nI (alN p s.1)), .int (nI (nn)), zu, zu, zu] [] 86 (zEE (mu) (nu)) (zlift (Q))) : ∀ n S, 2 ^ 20 ≤ S + n → 0 < S → S < 2 ^ 22 → pcn 32 S = nn → Exc p s.1 nn S → zJ X M_X9_fewest (d + 5) 0 0 117 [.ref 66, .int (nI (alN p s.1)), .int (nI (nn)), .int (nI (S)), zu, zu] [] 86 (zEE (mu) (nu)) (zlift (Q)) := by
  have h20 := hp.n20
  have h5 : pb p ≤ 5 := hp.2.2.2.2.2.1
  have hw5 := hp.2.1
  have hh4 := hp.2.2.2.1
  have hN : 2 ^ (pw p * ph p) ≤ 2 ^ 20 := Nat.pow_le_pow_right (by decide) h20
  have ha32 := alN_lt h5 s.1
  have hend : ∀ S, 2 ^ (pw p * ph p) ≤ S → pcn 32 S = nn → Exc p s.1 nn S → (∀ S', S' < 2 ^ (pw p * ph p) → unr (hmb p s.1) (hrs p s.1) (pw p * ph p) S' = 2 ^ pb p - 1 → nn < popc S') := fun S h1 h2 h3 S' g1 g2 => by
    rcases h3 S' g1 g2 with g | ⟨_, g⟩
    · exact g
    · omega
  intro n
  induction n with
  | zero =>
    intro S hn h0 h22 hpc hex
    refine z_iload_n dX9_fewest_117 rfl ?_
    refine z_iconst (v := nI 1) dX9_fewest_118 rfl ?_
    refine z_aload_n dX9_fewest_119 rfl ?_
    refine y_getIe dX9_fewest_120 lf_X9_13 rfl rfl hM.1 ?_
    refine z_aload_n dX9_fewest_123 rfl ?_
    refine y_getIe dX9_fewest_124 lf_X9_17 rfl rfl hM.2.1 ?_
    refine zn_imul dX9_fewest_127 ?_
    refine zn_ishl dX9_fewest_128 (by omega) (by omega) ?_
    refine zn_icmp_ge (tgt := 199) dX9_fewest_129 (by decide) (by omega) (by omega) (fun hc129 => ?_) (fun hc129 => by omega)
    exact z_sub (kk (hend S (by omega) hpc hex)) ⟨Or.inr rfl, Or.inr rfl, Or.inr rfl, Or.inl rfl, Or.inl rfl, Or.inl rfl, trivial⟩
  | succ n ih =>
    intro S hn h0 h22 hpc hex
    refine z_iload_n dX9_fewest_117 rfl ?_
    refine z_iconst (v := nI 1) dX9_fewest_118 rfl ?_
    refine z_aload_n dX9_fewest_119 rfl ?_
    refine y_getIe dX9_fewest_120 lf_X9_13 rfl rfl hM.1 ?_
    refine z_aload_n dX9_fewest_123 rfl ?_
    refine y_getIe dX9_fewest_124 lf_X9_17 rfl rfl hM.2.1 ?_
    refine zn_imul dX9_fewest_127 ?_
    refine zn_ishl dX9_fewest_128 (by omega) (by omega) ?_
    refine zn_icmp_ge (tgt := 199) dX9_fewest_129 (by decide) (by omega) (by omega) (fun hc129 => ?_) (fun hc129 => ?_)
    · exact z_sub (kk (hend S (by omega) hpc hex)) ⟨Or.inr rfl, Or.inr rfl, Or.inr rfl, Or.inl rfl, Or.inl rfl, Or.inl rfl, trivial⟩
    · refine z_iconst (v := nI 0) dX9_fewest_132 rfl ?_
      refine z_istore4 dX9_fewest_133 rfl ?_
      refine z_iconst (v := nI 0) dX9_fewest_135 rfl ?_
      refine z_istore5 dX9_fewest_136 rfl ?_
      have hS20 : S < 2 ^ 20 := by omega
      have hng := nxo_gt h0 hS20
      have hh := hvv_lt hp s.1 S (pw p * ph p)
      refine m_few5 hp hM hval hS20 d ?_ (pw p * ph p) 0 (by omega)
      refine z_iload dX9_fewest_183 rfl ?_
      refine z_iload_n dX9_fewest_185 rfl ?_
      refine zn_icmp_ne (tgt := 191) dX9_fewest_186 (by decide) (by omega) (by omega) (fun hc186 => ?_) (fun hc186 => ?_)
      · refine z_iload_n dX9_fewest_191 rfl ?_
        refine y_callS1x (M' := M_X9_nextOf) dX9_fewest_192 lm_X9_228 cs_X9_nextOf (Nat.le_of_ble_eq_true rfl) (Nat.le_of_ble_eq_true rfl) rfl (m_nextOf h0 hS20 _) ?_
        refine z_istore3 dX9_fewest_195 rfl ?_
        refine z_goto (tgt := 117) dX9_fewest_196 (by decide) ?_
        exact z_sub (ih (nxo S) (by omega) (by omega) (by omega) ((nxo_pc h0 hS20).1.trans hpc) (Exc_s hp hex h0 hS20 hpc hc186)) ⟨Or.inr rfl, Or.inr rfl, Or.inr rfl, Or.inr rfl, Or.inl rfl, Or.inl rfl, trivial⟩
      · refine z_iload_n dX9_fewest_189 rfl ?_
        exact y_ireturn dX9_fewest_190 rfl (hQ S (Exc_cv hp hex (by omega) hpc hc186))
set_option maxRecDepth 4000 in
theorem m_few3 {X : zX} {mu : zmu} {nu : znu} {p : PT} {s : SC} (hp : PV p) (hM : PM p mu) (hval : ∀ c, c < pw p * ph p → mu 85 c = nI (hrs p s.1 c &&& alN p s.1)) (hV : SVs p s) {Q : zq} (d : Nat) (hQ : ∀ S, CVb p s.1 S → Q (some (.int (nI S))) mu nu) : ∀ n i , i + n = pb p + 1 → 1 ≤ i → (∀ S', S' < 2 ^ (pw p * ph p) → unr (hmb p s.1) (hrs p s.1) (pw p * ph p) S' = 2 ^ pb p - 1 → i - 1 < popc S') → zJ X M_X9_fewest (d + 5) 0 0 103 [.ref 66, .int (nI (alN p s.1)), .int (nI (i)), zu, zu, zu] [] 86 (zEE (mu) (nu)) (zlift (Q)) := by
  intro n
  induction n with
  | zero =>
    intro i  hi
    have h20 := hp.n20
    have h5 : pb p ≤ 5 := hp.2.2.2.2.2.1
    have hw5 := hp.2.1
    have hh4 := hp.2.2.2.1
    intro h1 hco
    exfalso
    have g := hco (ownS s.1 (pb p)) (own_lt _ (fun b hb => (hV.1 b hb).2)) (own_full hV)
    have := own_pc s.1 (pb p)
    omega
  | succ n ih =>
    intro i  hi
    have h20 := hp.n20
    have h5 : pb p ≤ 5 := hp.2.2.2.2.2.1
    have hw5 := hp.2.1
    have hh4 := hp.2.2.2.1
    intro h1 hco
    have hpi : 1 * 2 ^ i ≤ 1 * 2 ^ 5 := Nat.mul_le_mul_left 1 (Nat.pow_le_pow_right (by decide) (by omega))
    have hp2 : 1 * 2 ^ 1 ≤ 1 * 2 ^ i := Nat.mul_le_mul_left 1 (Nat.pow_le_pow_right (by decide) (by omega))
    have hpc : pcn 32 (1 * 2 ^ i - 1) = i := by
      rw [Nat.one_mul]
      rw [pcn_le (q := i) (by omega) (by omega), pcn_full]
    have hex := Exc_n hp hco
    rw [show i - 1 + 1 = i by omega] at hex
    refine z_iload_n dX9_fewest_103 rfl ?_
    refine z_aload_n dX9_fewest_104 rfl ?_
    refine y_getIe dX9_fewest_105 lf_X9_78 rfl rfl hM.2.2.2.1 ?_
    refine zn_icmp_gt (tgt := 205) dX9_fewest_108 (by decide) (by omega) (by omega) (fun hc108 => by omega) (fun hc108 => ?_)
    refine z_iconst (v := nI 1) dX9_fewest_111 rfl ?_
    refine z_iload_n dX9_fewest_112 rfl ?_
    refine zn_ishl dX9_fewest_113 (by omega) (by omega) ?_
    refine z_iconst (v := nI 1) dX9_fewest_114 rfl ?_
    refine zn_isub dX9_fewest_115 (by omega) ?_
    refine z_istore3 dX9_fewest_116 rfl ?_
    refine m_few4 hp hM hval d hQ (fun hco2 => ?_) (2 ^ 20) (1 * 2 ^ i - 1) (by omega) (by omega) (by omega) hpc hex
    refine zn_iinc2 dX9_fewest_199 rfl ?_
    refine z_goto (tgt := 103) dX9_fewest_202 (by decide) ?_
    exact ih (i + 1) (by omega) (by omega) hco2
set_option maxRecDepth 4000 in
theorem m_few2 {X : zX} {mu : zmu} {nu : znu} {p : PT} {s : SC} (hp : PV p) (hV : SVs p s) (hM : PM p mu) (hG : PG p s 73 mu) {Q : zq} {c : Nat} (hc : c < pw p * ph p) (d : Nat) (kk : ∀ mu9, S81 mu mu9 → zJ X M_X9_fewest (d + 5) 0 0 80 [.ref 66, .int (nI (alN p s.1)), .int (nI (c)), .int (nI (hrs p s.1 c)), .int (nI (pb p)), zu] [] 86 (zEE (mu9) (nu)) (zlift (Q))) : ∀ n i mu1, i + n = pb p → S81 mu mu1 → zJ X M_X9_fewest (d + 5) 0 0 40 [.ref 66, .int (nI (alN p s.1)), .int (nI (c)), .int (nI (bset (hrb p s.1 c) i)), .int (nI (i)), zu] [] 86 (zEE (mu1) (nu)) (zlift (Q)) := by
  intro n
  induction n with
  | zero =>
    intro i mu1 hi
    have h20 := hp.n20
    have h5 : pb p ≤ 5 := hp.2.2.2.2.2.1
    have hw5 := hp.2.1
    have hh4 := hp.2.2.2.1
    intro hS
    obtain rfl : i = pb p := by omega
    have hM1 := PM_m hM (Sm_S hS)
    refine z_iload dX9_fewest_40 rfl ?_
    refine z_aload_n dX9_fewest_42 rfl ?_
    refine y_getIe dX9_fewest_43 lf_X9_78 rfl rfl hM1.2.2.2.1 ?_
    refine zn_icmp_ge (tgt := 80) dX9_fewest_46 (by decide) (by omega) (by omega) (fun hc46 => ?_) (fun hc46 => by exact absurd hc46 (Nat.lt_irrefl _))
    exact kk mu1 hS
  | succ n ih =>
    intro i mu1 hi
    have h20 := hp.n20
    have h5 : pb p ≤ 5 := hp.2.2.2.2.2.1
    have hw5 := hp.2.1
    have hh4 := hp.2.2.2.1
    intro hS
    have hM1 := PM_m hM (Sm_S hS)
    have hG1 := PG_e hG (hS 73 (by decide))
    refine z_iload dX9_fewest_40 rfl ?_
    refine z_aload_n dX9_fewest_42 rfl ?_
    refine y_getIe dX9_fewest_43 lf_X9_78 rfl rfl hM1.2.2.2.1 ?_
    refine zn_icmp_ge (tgt := 80) dX9_fewest_46 (by decide) (by omega) (by omega) (fun hc46 => by omega) (fun hc46 => ?_)
    refine z_iload_n dX9_fewest_49 rfl ?_
    refine z_aload_n dX9_fewest_50 rfl ?_
    refine z_aload_n dX9_fewest_51 rfl ?_
    refine y_getR dX9_fewest_52 lf_X9_35 rfl rfl ?_
    refine z_iload dX9_fewest_55 rfl ?_
    refine z_iload_n dX9_fewest_57 rfl ?_
    refine y_callV3 (M' := M_X9_hears) dX9_fewest_58 lm_X9_203 cv_X9_hears rfl (Nat.le_of_ble_eq_true rfl) (Nat.le_of_ble_eq_true rfl) rfl (m_hears hp hM1 p73 hG1 hV (b := i) (by omega) hc _) (fun r mu2 nu2 hq => ?_)
    obtain ⟨rfl, rfl, hS2⟩ := hq
    refine zb_if_eq (tgt := 71) dX9_fewest_61 (by decide) (fun hc61 => ?_) (fun hc61 => ?_)
    · have ev : bset (hrb p s.1 c) (i + 1) = bset (hrb p s.1 c) i ||| 0 := by simp [bset, hc61]
      refine z_iconst (v := nI 0) dX9_fewest_71 rfl ?_
      refine zn_ior dX9_fewest_72 ?_
      rw [← ev]
      refine z_istore3 dX9_fewest_73 rfl ?_
      refine zn_iinc4 dX9_fewest_74 rfl ?_
      refine z_goto (tgt := 40) dX9_fewest_77 (by decide) ?_
      exact ih (i + 1) mu2 (by omega) (S81_tr hS hS2)
    · have ev : bset (hrb p s.1 c) (i + 1) = bset (hrb p s.1 c) i ||| 1 * 2 ^ i := by simp [bset, hc61]
      refine z_iconst (v := nI 1) dX9_fewest_64 rfl ?_
      refine z_iload dX9_fewest_65 rfl ?_
      refine zn_ishl dX9_fewest_67 (by omega) (by have : 1 * 2 ^ i ≤ 1 * 2 ^ 20 := Nat.mul_le_mul_left 1 (Nat.pow_le_pow_right (by decide) (by omega)); omega) ?_
      refine z_goto (tgt := 72) dX9_fewest_68 (by decide) ?_
      refine zn_ior dX9_fewest_72 ?_
      rw [← ev]
      refine z_istore3 dX9_fewest_73 rfl ?_
      refine zn_iinc4 dX9_fewest_74 rfl ?_
      refine z_goto (tgt := 40) dX9_fewest_77 (by decide) ?_
      exact ih (i + 1) mu2 (by omega) (S81_tr hS hS2)
theorem S9_1 {mu mu1 : zmu} (h : S81 mu mu1) : S9 mu mu1 := fun x a _ _ _ => h x a
set_option maxRecDepth 4000 in
theorem m_few1 {X : zX} {mu : zmu} {nu : znu} {p : PT} {s : SC} (hp : PV p) (hV : SVs p s) (hM : PM p mu) (hG : PG p s 73 mu) {Q : zq} (d : Nat) (kk : ∀ mu9, S9 mu mu9 → (∀ c, c < pw p * ph p → mu9 85 c = nI (hrs p s.1 c &&& alN p s.1)) → zJ X M_X9_fewest (d + 5) 0 0 95 [.ref 66, .int (nI (alN p s.1)), zu, zu, zu, zu] [] 86 (zEE (mu9) (nu)) (zlift (Q))) : ∀ n i mu1, i + n = pw p * ph p → S9 mu mu1 → (∀ c, c < i → mu1 85 c = nI (hrs p s.1 c &&& alN p s.1)) → zJ X M_X9_fewest (d + 5) 0 0 22 [.ref 66, .int (nI (alN p s.1)), .int (nI (i)), zu, zu, zu] [] 86 (zEE (mu1) (nu)) (zlift (Q)) := by
  intro n
  induction n with
  | zero =>
    intro i mu1 hi
    have h20 := hp.n20
    have h5 : pb p ≤ 5 := hp.2.2.2.2.2.1
    have hw5 := hp.2.1
    have hh4 := hp.2.2.2.1
    intro hS hv
    obtain rfl : i = pw p * ph p := by omega
    have hM1 := PM_m hM (Sm_9 hS)
    refine z_iload_n dX9_fewest_22 rfl ?_
    refine z_aload_n dX9_fewest_23 rfl ?_
    refine y_getIe dX9_fewest_24 lf_X9_13 rfl rfl hM1.1 ?_
    refine z_aload_n dX9_fewest_27 rfl ?_
    refine y_getIe dX9_fewest_28 lf_X9_17 rfl rfl hM1.2.1 ?_
    refine zn_imul dX9_fewest_31 ?_
    refine zn_icmp_ge (tgt := 95) dX9_fewest_32 (by decide) (by omega) (by omega) (fun hc32 => ?_) (fun hc32 => by exact absurd hc32 (Nat.lt_irrefl _))
    exact z_sub (kk mu1 hS hv) ⟨Or.inr rfl, Or.inr rfl, Or.inl rfl, Or.inl rfl, Or.inl rfl, Or.inl rfl, trivial⟩
  | succ n ih =>
    intro i mu1 hi
    have h20 := hp.n20
    have h5 : pb p ≤ 5 := hp.2.2.2.2.2.1
    have hw5 := hp.2.1
    have hh4 := hp.2.2.2.1
    intro hS hv
    have hM1 := PM_m hM (Sm_9 hS)
    have hG1 := PG_e hG (hS 73 (by decide) (by decide) (by decide) (by decide))
    refine z_iload_n dX9_fewest_22 rfl ?_
    refine z_aload_n dX9_fewest_23 rfl ?_
    refine y_getIe dX9_fewest_24 lf_X9_13 rfl rfl hM1.1 ?_
    refine z_aload_n dX9_fewest_27 rfl ?_
    refine y_getIe dX9_fewest_28 lf_X9_17 rfl rfl hM1.2.1 ?_
    refine zn_imul dX9_fewest_31 ?_
    refine zn_icmp_ge (tgt := 95) dX9_fewest_32 (by decide) (by omega) (by omega) (fun hc32 => by omega) (fun hc32 => ?_)
    refine z_iconst (v := nI 0) dX9_fewest_35 rfl ?_
    refine z_istore3 dX9_fewest_36 rfl ?_
    refine z_iconst (v := nI 0) dX9_fewest_37 rfl ?_
    refine z_istore4 dX9_fewest_38 rfl ?_
    refine m_few2 hp hV hM1 hG1 (c := i) (by omega) d (fun mu9 hS9 => ?_) (pb p) 0 mu1 (by omega) S81_rf
    refine z_aload_n dX9_fewest_80 rfl ?_
    refine y_getR dX9_fewest_81 lf_X9_72 rfl rfl ?_
    refine z_iload_n dX9_fewest_84 rfl ?_
    refine z_iload_n dX9_fewest_85 rfl ?_
    refine z_iload_n dX9_fewest_86 rfl ?_
    refine zn_iand dX9_fewest_87 ?_
    refine y_iast dX9_fewest_88 rfl (by decide) (by omega) ?_
    refine zn_iinc2 dX9_fewest_89 rfl ?_
    refine z_goto (tgt := 22) dX9_fewest_92 (by decide) ?_
    refine z_sub (ih (i + 1) _ (by omega) (S9_tr hS (S9_tr (S9_1 hS9) S9_u)) (fun c hc => ?_)) ⟨Or.inr rfl, Or.inr rfl, Or.inr rfl, Or.inl rfl, Or.inl rfl, Or.inl rfl, trivial⟩
    by_cases e : c = i
    · rw [e, u2_s]
    · rw [u2_k e, hS9 85 (by decide)]; exact hv c (by omega)
set_option maxRecDepth 4000 in
theorem m_fewest {X : zX} {mu : zmu} {nu : znu} {p : PT} {s : SC} (hp : PV p) (hV : SVs p s) (hM : PM p mu) (hG : PG p s 73 mu) (d : Nat) : zJ X M_X9_fewest (d + 5) 0 0 0 [.ref 66, zu, zu, zu, zu, zu] [] 86 (zEE (mu) (nu)) (zlift (fun r mu1 nu1 => nu1 = nu ∧ S9 mu mu1 ∧ ∃ S, CVb p s.1 S ∧ r = some (.int (nI S)))) := by
  have h20 := hp.n20
  have h5 : pb p ≤ 5 := hp.2.2.2.2.2.1
  have hw5 := hp.2.1
  have hh4 := hp.2.2.2.1
  have hp5 : 1 * 2 ^ pb p ≤ 32 := pow5 h5
  have hp0 : 0 < 2 ^ pb p := Nat.pow_pos (by decide)
  have ha32 := alN_lt h5 s.1
  refine z_iconst (v := nI 1) dX9_fewest_0 rfl ?_
  refine z_aload_n dX9_fewest_1 rfl ?_
  refine y_getIe dX9_fewest_2 lf_X9_78 rfl rfl hM.2.2.2.1 ?_
  refine zn_ishl dX9_fewest_5 (by omega) (by omega) ?_
  refine z_iconst (v := nI 1) dX9_fewest_6 rfl ?_
  refine zn_isub dX9_fewest_7 (by omega) ?_
  refine z_aload_n dX9_fewest_8 rfl ?_
  refine z_aload_n dX9_fewest_9 rfl ?_
  refine y_getR dX9_fewest_10 lf_X9_35 rfl rfl ?_
  refine y_callV1x (M' := M_X9_homes) dX9_fewest_13 lm_X9_166 cv_X9_homes rfl (Nat.le_of_ble_eq_true rfl) (Nat.le_of_ble_eq_true rfl) rfl (m_homes hp hM p73 hG hV _) ?_
  refine z_iconst (v := nI 4294967295) dX9_fewest_16 rfl ?_
  refine zn_ixor dX9_fewest_17 ?_
  refine zn_iand dX9_fewest_18 ?_
  rw [show (1 * 2 ^ pb p - 1) &&& (bset (hmf p s.1) (pb p) ^^^ 4294967295) = alN p s.1 from rfl]
  refine z_istore1 dX9_fewest_19 rfl ?_
  refine z_iconst (v := nI 0) dX9_fewest_20 rfl ?_
  refine z_istore2 dX9_fewest_21 rfl ?_
  refine m_few1 hp hV hM hG d (fun mu9 hS9 hval => ?_) (pw p * ph p) 0 mu (by omega) (fun _ _ _ _ _ => rfl) (fun c hc => absurd hc (Nat.not_lt_zero _))
  have hM9 := PM_m hM (Sm_9 hS9)
  refine z_iload_n dX9_fewest_95 rfl ?_
  refine zn_if_ne (tgt := 101) dX9_fewest_96 (by decide) (by omega) (fun hc96 => ?_) (fun hc96 => ?_)
  · refine z_iconst (v := nI 1) dX9_fewest_101 rfl ?_
    refine z_istore2 dX9_fewest_102 rfl ?_
    exact m_few3 hp hM9 hval hV d (fun S hcv => ⟨rfl, hS9, S, hcv, rfl⟩) (pb p) 1 (by omega) (by omega) (Exc_0 hp hc96)
  · refine z_iconst (v := nI 0) dX9_fewest_99 rfl ?_
    exact y_ireturn dX9_fewest_100 rfl ⟨rfl, hS9, 0, cv_0 hp hc96, rfl⟩
set_option maxRecDepth 4000 in
theorem r_calls {X : zX} {mu : zmu} {nu : znu} {A : AS} (hA : AV A) (hC : MR A mu nu) (x : Int32) (d : Nat) : zJ X M_X9_calls (d + 10) 0 0 0 [.ref 66, .int x, zu] [] 86 (zEE (mu) (nu)) (zlift (QM (f_calls A x) mu nu)) := by
  have hp := hA.1
  have hV := hA.2.1
  have h20 : pw (aP A) * ph (aP A) ≤ 20 := hA.n
  have h5 := hA.b
  refine z_aload_n dX9_calls_0 rfl ?_
  refine z_iconst (v := nI 0) dX9_calls_1 rfl ?_
  refine y_putI dX9_calls_2 lp_X9_75 rfl rfl ?_
  refine zJ_mono (Q := QM (f_calls A x) (u2 mu 66 0 (nI 0)) nu) ?_ QM_th
  replace hC := MR_m hC (Sm_th (mu := mu) (v := nI 0)) rfl
  generalize u2 mu 66 0 (nI 0) = mu at hC ⊢
  obtain ⟨hM, hG, hB, hKe, hE, hT, hD⟩ := id hC
  refine z_iload_n dX9_calls_5 rfl ?_
  refine z_i2l dX9_calls_6 ?_
  refine z_lconst (v := 0) dX9_calls_7 rfl ?_
  refine z_lconst (v := 1) dX9_calls_8 rfl ?_
  refine y_callS3x (M' := M_X9_in) dX9_calls_9 lm_X9_81 cs_X9_in (Nat.le_of_ble_eq_true rfl) (Nat.le_of_ble_eq_true rfl) rfl (m_in _ _ _ _) ?_
  rw [in_01]
  refine zb_if_ne (tgt := 18) dX9_calls_12 (by decide) (fun hc12 => ?_) (fun hc12 => ?_)
  · refine z_aload_n dX9_calls_18 rfl ?_
    refine y_callV0 (M' := M_X9_fewest) dX9_calls_19 lm_X9_231 cv_X9_fewest rfl (Nat.le_of_ble_eq_true rfl) (Nat.le_of_ble_eq_true rfl) rfl (m_fewest hp hV hM hG _) (fun r mu2 nu2 hq => ?_)
    obtain ⟨rfl, hS9, S, hcv, rfl⟩ := hq
    have ecv := cvS_eq hp hcv
    have hS20 : S < 2 ^ 20 := Nat.lt_of_lt_of_le hcv.1 (Nat.pow_le_pow_right (by decide) h20)
    have hx := inr2_t hc12
    refine z_istore2 dX9_calls_22 rfl ?_
    refine z_iload_n dX9_calls_23 rfl ?_
    refine z_if_ne (tgt := 31) dX9_calls_24 (by decide) (fun hc24 => ?_) (fun hc24 => ?_)
    · refine z_iload_n dX9_calls_31 rfl ?_
      refine y_callS1x (M' := M_X9_many) dX9_calls_32 lm_X9_170 cs_X9_many (Nat.le_of_ble_eq_true rfl) (Nat.le_of_ble_eq_true rfl) rfl (m_many (by omega) _) ?_
      exact y_ireturn dX9_calls_35 rfl (QM_m hC (Sm_9 hS9) (by rcases hx with rfl | rfl <;> simp_all [f_calls]))
    · refine z_iload_n dX9_calls_27 rfl ?_
      refine z_goto (tgt := 35) dX9_calls_28 (by decide) ?_
      exact y_ireturn dX9_calls_35 rfl (QM_m hC (Sm_9 hS9) (by rcases hx with rfl | rfl <;> simp_all [f_calls]))
  · have g := inr2_f hc12
    refine z_bipush (v := -2) dX9_calls_15 rfl ?_
    exact y_ireturn dX9_calls_17 rfl (QM_rf hC (by simp [f_calls, g.1, g.2]))
