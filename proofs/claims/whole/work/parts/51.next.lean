/-! the next number with as many bits -/
def pcn (n x : Nat) : Nat := bcnt (fun i => x.testBit i) n
theorem bcnt_z {f : Nat → Bool} : ∀ {n : Nat}, (∀ i, i < n → f i = false) → bcnt f n = 0
  | 0, _ => rfl
  | n + 1, h => by rw [bcnt_s, bcnt_z (fun i hi => h i (by omega)), h n (by omega)]; rfl
theorem bcnt_full {f : Nat → Bool} : ∀ {n : Nat}, (∀ i, i < n → f i = true) → bcnt f n = n
  | 0, _ => rfl
  | n + 1, h => by rw [bcnt_s, bcnt_full (fun i hi => h i (by omega)), h n (by omega)]; rfl
theorem bcnt_lt {f : Nat → Bool} : ∀ {n i : Nat}, i < n → f i = false → bcnt f n < n
  | 0, _, h, _ => absurd h (Nat.not_lt_zero _)
  | n + 1, i, h, e => by
    rw [bcnt_s]
    have hl := bcnt_le f n
    by_cases hi : i = n
    · subst hi; rw [e]; simp; omega
    · have := bcnt_lt (n := n) (show i < n by omega) e
      split <;> omega
theorem pcn_up {q r : Nat} (h : r < 2 ^ q) (t : Nat) : pcn (q + t) r = pcn q r := by
  unfold pcn
  rw [bcnt_split]
  have : bcnt (fun i => r.testBit (q + i)) t = 0 := bcnt_z (fun i _ => Nat.testBit_lt_two_pow (Nat.lt_of_lt_of_le h (Nat.pow_le_pow_right (by decide) (by omega))))
  omega
theorem pcn_le {q r n : Nat} (h : r < 2 ^ q) (hn : q ≤ n) : pcn n r = pcn q r := by
  have := pcn_up h (n - q)
  rw [show q + (n - q) = n by omega] at this; exact this
theorem pcn_split {q r : Nat} (h : r < 2 ^ q) (A t : Nat) : pcn (q + t) (2 ^ q * A + r) = pcn q r + pcn t A := by
  unfold pcn
  rw [bcnt_split]
  congr 1
  · exact bcnt_congr (fun i hi => by rw [Nat.testBit_two_pow_mul_add _ h, if_pos hi])
  · exact bcnt_congr (fun i hi => by rw [Nat.testBit_two_pow_mul_add _ h, if_neg (by omega)]; congr 1; omega)
theorem pcn_full (q : Nat) : pcn q (2 ^ q - 1) = q := bcnt_full (fun i hi => by rw [Nat.testBit_two_pow_sub_one]; simp [hi])
theorem pcn_lt {q r : Nat} (h : r < 2 ^ q) (hne : r ≠ 2 ^ q - 1) : pcn q r < q := by
  refine Nat.lt_of_not_le (fun hle => hne ?_)
  apply Nat.eq_of_testBit_eq
  intro i
  rw [Nat.testBit_two_pow_sub_one]
  by_cases hi : i < q
  · cases e : r.testBit i with
    | true => simp [hi]
    | false => exact absurd (bcnt_lt (f := fun i => r.testBit i) hi e) (by unfold pcn at hle; omega)
  · rw [Nat.testBit_lt_two_pow (Nat.lt_of_lt_of_le h (Nat.pow_le_pow_right (by decide) (by omega)))]; simp [hi]
theorem pcn_pos {q r : Nat} (h : r < 2 ^ q) (h0 : 0 < r) : 0 < pcn q r := by
  refine Nat.pos_of_ne_zero (fun e => ?_)
  have : r = 0 := by
    apply Nat.eq_of_testBit_eq
    intro i
    rw [Nat.zero_testBit]
    by_cases hi : i < q
    · exact bcnt_0 e i hi
    · exact Nat.testBit_lt_two_pow (Nat.lt_of_lt_of_le h (Nat.pow_le_pow_right (by decide) (by omega)))
  omega
theorem popc_32 {x : Nat} (h : x < 2 ^ 20) : pcn 32 x = popc x := pcn_le h (by decide)
theorem odd_dec (x : Nat) : x % 2 = 1 → ∃ A m, x = A * 2 ^ (m + 2) + (2 ^ (m + 1) - 1) := by
  induction x using Nat.strongRecOn with
  | ind x ih =>
    intro h
    rcases Nat.mod_two_eq_zero_or_one (x / 2) with h2 | h2
    · exact ⟨x / 2 / 2, 0, by simp; omega⟩
    · obtain ⟨A, m, e⟩ := ih (x / 2) (by omega) h2
      refine ⟨A, m + 1, ?_⟩
      have e1 : 2 ^ (m + 1 + 2) = 2 * 2 ^ (m + 2) := by rw [Nat.pow_succ 2 (m + 2), Nat.mul_comm]
      have e2 : 2 ^ (m + 1 + 1) = 2 * 2 ^ (m + 1) := by rw [Nat.pow_succ 2 (m + 1), Nat.mul_comm]
      have e3 : A * (2 * 2 ^ (m + 2)) = 2 * (A * 2 ^ (m + 2)) := Nat.mul_left_comm _ _ _
      have e4 : 0 < 2 ^ (m + 1) := Nat.pow_pos (by decide)
      have e5 : A * 2 ^ (m + 1 + 2) = 2 * (A * 2 ^ (m + 2)) := by rw [e1]; exact e3
      generalize A * 2 ^ (m + 1 + 2) = u at *
      generalize A * 2 ^ (m + 2) = v at *
      generalize 2 ^ (m + 1 + 1) = z at *
      omega
theorem any_dec (x : Nat) : 0 < x → ∃ A k m, x = (A * 2 ^ (m + 2) + (2 ^ (m + 1) - 1)) * 2 ^ k := by
  induction x using Nat.strongRecOn with
  | ind x ih =>
    intro h
    rcases Nat.mod_two_eq_zero_or_one x with h2 | h2
    · obtain ⟨A, k, m, e⟩ := ih (x / 2) (by omega) (by omega)
      refine ⟨A, k + 1, m, ?_⟩
      rw [Nat.pow_succ 2 k, ← Nat.mul_assoc, ← e]; omega
    · obtain ⟨A, m, e⟩ := odd_dec x h2
      exact ⟨A, 0, m, by rw [Nat.pow_zero, Nat.mul_one]; exact e⟩
theorem and_neg {B k x : Nat} (hB : B % 2 = 1) (e : x = B * 2 ^ k) (hx : x < 2 ^ 32) : x &&& (2 ^ 32 - x) = 2 ^ k := by
  have hk0 : 0 < 2 ^ k := Nat.pow_pos (by decide)
  have hx0 : 0 < x := by rw [e]; exact Nat.mul_pos (by omega) hk0
  have hk : k < 32 := by
    refine Nat.lt_of_not_le (fun h => ?_)
    have h1 : 2 ^ 32 ≤ 2 ^ k := Nat.pow_le_pow_right (by decide) h
    have h2 : 1 * 2 ^ k ≤ B * 2 ^ k := Nat.mul_le_mul_right _ (by omega)
    omega
  have e1 : x = 2 ^ k * B + 0 := by rw [e, Nat.mul_comm]; rfl
  have e2 : x - 1 = 2 ^ k * (B - 1) + (2 ^ k - 1) := by
    rw [Nat.mul_sub, ← Nat.mul_comm B, ← e, Nat.mul_one]
    have : 2 ^ k ≤ x := by rw [e]; exact Nat.le_mul_of_pos_left _ (by omega)
    omega
  apply Nat.eq_of_testBit_eq
  intro i
  have e3 : 2 ^ 32 - x = 2 ^ 32 - ((x - 1) + 1) := by rw [show x - 1 + 1 = x by omega]
  rw [Nat.testBit_and, e3, Nat.testBit_two_pow_sub_succ (by omega), e2, Nat.testBit_two_pow_mul_add _ (show 2 ^ k - 1 < 2 ^ k by omega)]
  have e4 : x.testBit i = (if i < k then (0 : Nat).testBit i else B.testBit (i - k)) := by
    have g := Nat.testBit_two_pow_mul_add B hk0 i
    rw [← e1] at g; exact g
  rw [e4, Nat.testBit_two_pow]
  by_cases h1 : i < k
  · rw [if_pos h1]; simp; omega
  · rw [if_neg h1, if_neg h1]
    by_cases h2 : i = k
    · subst h2
      rw [Nat.sub_self, Nat.testBit_zero, Nat.testBit_zero]
      simp [hB, show (B - 1) % 2 = 0 by omega, hk]
    · obtain ⟨j, hj⟩ : ∃ j, i - k = j + 1 := ⟨i - k - 1, by omega⟩
      rw [hj, Nat.testBit_succ, Nat.testBit_succ, show (B - 1) / 2 = B / 2 by omega]
      cases (B / 2).testBit j <;> simp <;> omega
theorem xor_mul {A q r s : Nat} (hr : r < 2 ^ q) (hs : s < 2 ^ q) : (2 ^ q * A + r) ^^^ (2 ^ q * A + s) = r ^^^ s := by
  apply Nat.eq_of_testBit_eq
  intro i
  rw [Nat.testBit_xor, Nat.testBit_xor, Nat.testBit_two_pow_mul_add _ hr, Nat.testBit_two_pow_mul_add _ hs]
  by_cases h : i < q
  · rw [if_pos h, if_pos h]
  · rw [if_neg h, if_neg h, Nat.testBit_lt_two_pow (Nat.lt_of_lt_of_le hr (Nat.pow_le_pow_right (by decide) (by omega))), Nat.testBit_lt_two_pow (Nat.lt_of_lt_of_le hs (Nat.pow_le_pow_right (by decide) (by omega)))]
    simp
theorem xor_run (n k : Nat) : (2 ^ n - 1) * 2 ^ k ^^^ 2 ^ n * 2 ^ k = (2 ^ (n + 1) - 1) * 2 ^ k := by
  apply Nat.eq_of_testBit_eq
  intro i
  rw [Nat.testBit_xor, Nat.testBit_mul_two_pow, Nat.testBit_mul_two_pow, Nat.testBit_mul_two_pow, Nat.testBit_two_pow_sub_one, Nat.testBit_two_pow_sub_one, Nat.testBit_two_pow]
  by_cases h : k ≤ i
  · simp only [h, decide_true, Bool.true_and]
    by_cases h1 : i - k < n
    · simp [h1, show ¬ n = i - k by omega, show i - k < n + 1 by omega]
    · by_cases h2 : n = i - k
      · simp [h1, ← h2]
      · simp [h1, h2, show ¬ i - k < n + 1 by omega]
  · simp [h]
/-- what the reference's nextOf gives -/
def nxo (x : Nat) : Nat := (x + (x &&& (2 ^ 32 - x))) ||| ((x ^^^ (x + (x &&& (2 ^ 32 - x)))) / (x &&& (2 ^ 32 - x))) / 2 ^ 2
theorem nxo_at {x : Nat} (h0 : 0 < x) (hx : x < 2 ^ 20) : ∃ A k m, x = 2 ^ (k + m + 2) * A + (2 ^ (k + m + 1) - 2 ^ k) ∧ (x &&& (2 ^ 32 - x)) = 2 ^ k ∧ (x ^^^ (x + 2 ^ k)) = (2 ^ (m + 2) - 1) * 2 ^ k ∧ nxo x = 2 ^ (k + m + 2) * A + (2 ^ (k + m + 1) + (2 ^ m - 1)) ∧ k + m + 1 ≤ 20 := by
  obtain ⟨A, k, m, e⟩ := any_dec x h0
  have p1 : 2 ^ (k + m + 1) = 2 ^ (m + 1) * 2 ^ k := by rw [show k + m + 1 = (m + 1) + k by omega, Nat.pow_add]
  have p2 : 2 ^ (k + m + 2) = 2 ^ (m + 2) * 2 ^ k := by rw [show k + m + 2 = (m + 2) + k by omega, Nat.pow_add]
  have p3 : 2 ^ (k + m + 2) = 2 * 2 ^ (k + m + 1) := by rw [Nat.pow_succ 2 (k + m + 1), Nat.mul_comm]
  have p4 : 2 ^ (k + m + 1) = 2 * 2 ^ (k + m) := by rw [Nat.pow_succ 2 (k + m), Nat.mul_comm]
  have hkm : 2 ^ k ≤ 2 ^ (k + m) := Nat.pow_le_pow_right (by decide) (by omega)
  have hmm : 2 ^ m ≤ 2 ^ (k + m) := Nat.pow_le_pow_right (by decide) (by omega)
  have hk0 : 0 < 2 ^ k := Nat.pow_pos (by decide)
  have hm0 : 0 < 2 ^ m := Nat.pow_pos (by decide)
  have ex : x = 2 ^ (k + m + 2) * A + (2 ^ (k + m + 1) - 2 ^ k) := by
    rw [e, Nat.add_mul, Nat.sub_mul, Nat.one_mul, ← p1, Nat.mul_assoc, ← p2, Nat.mul_comm A]
  have ea : (x &&& (2 ^ 32 - x)) = 2 ^ k := by
    refine and_neg ?_ e (Nat.lt_trans hx (by decide))
    have q1 : 2 ^ (m + 1) = 2 * 2 ^ m := by rw [Nat.pow_succ, Nat.mul_comm]
    have q2 : 2 ^ (m + 2) = 2 * 2 ^ (m + 1) := by rw [Nat.pow_succ 2 (m + 1), Nat.mul_comm]
    have q3 : A * (2 * 2 ^ (m + 1)) = 2 * (A * 2 ^ (m + 1)) := Nat.mul_left_comm _ _ _
    rw [q2, q3]; omega
  have eu : x + 2 ^ k = 2 ^ (k + m + 2) * A + 2 ^ (k + m + 1) := by omega
  have exo : (x ^^^ (x + 2 ^ k)) = (2 ^ (m + 2) - 1) * 2 ^ k := by
    rw [eu]
    conv => lhs; lhs; rw [ex]
    rw [xor_mul (by omega) (by omega), p1]
    have := xor_run (m + 1) k
    rw [Nat.sub_mul, Nat.one_mul] at this
    exact this
  refine ⟨A, k, m, ex, ea, exo, ?_, ?_⟩
  · unfold nxo
    rw [ea, exo, Nat.mul_div_cancel _ hk0, eu]
    have q : (2 ^ (m + 2) - 1) / 2 ^ 2 = 2 ^ m - 1 := by
      have : 2 ^ (m + 2) = 4 * 2 ^ m := by rw [Nat.pow_add, Nat.mul_comm]
      rw [this]; omega
    rw [q]
    have e1 : 2 ^ (k + m + 2) * A + 2 ^ (k + m + 1) = 2 ^ (k + m + 1) * (2 * A + 1) := by
      rw [Nat.mul_add, Nat.mul_one, p3, Nat.mul_assoc, Nat.mul_left_comm]
    rw [e1, ← Nat.two_pow_add_eq_or_of_lt (show 2 ^ m - 1 < 2 ^ (k + m + 1) by omega), ← e1]; omega
  · refine Nat.le_of_lt_succ (Nat.lt_of_not_le (fun h => ?_))
    have h1 : 2 ^ 20 ≤ 2 ^ (k + m) := Nat.pow_le_pow_right (by decide) (by omega)
    omega
theorem nxo_gt {x : Nat} (h0 : 0 < x) (hx : x < 2 ^ 20) : x < nxo x ∧ nxo x < 2 ^ 22 := by
  obtain ⟨A, k, m, e1, -, -, e2, hkm⟩ := nxo_at h0 hx
  have hk0 : 0 < 2 ^ k := Nat.pow_pos (by decide)
  have hm0 : 0 < 2 ^ m := Nat.pow_pos (by decide)
  have h1 : 2 ^ (k + m + 1) ≤ 2 ^ 20 := Nat.pow_le_pow_right (by decide) hkm
  have h2 : 2 ^ m ≤ 2 ^ 20 := Nat.pow_le_pow_right (by decide) (by omega)
  have h3 : 2 ^ k ≤ 2 ^ (k + m + 1) := Nat.pow_le_pow_right (by decide) (by omega)
  generalize 2 ^ (k + m + 1) = u at *
  omega
theorem nxo_pc {x : Nat} (h0 : 0 < x) (hx : x < 2 ^ 20) : pcn 32 (nxo x) = pcn 32 x ∧ ∀ y, x < y → y < nxo x → pcn 32 y ≠ pcn 32 x := by
  obtain ⟨A, k, m, e1, -, -, e2, hkm⟩ := nxo_at h0 hx
  have hk0 : 0 < 2 ^ k := Nat.pow_pos (by decide)
  have hm0 : 0 < 2 ^ m := Nat.pow_pos (by decide)
  have p3 : 2 ^ (k + m + 2) = 2 * 2 ^ (k + m + 1) := by rw [Nat.pow_succ 2 (k + m + 1), Nat.mul_comm]
  have p4 : 2 ^ (k + m + 1) = 2 * 2 ^ (k + m) := by rw [Nat.pow_succ 2 (k + m), Nat.mul_comm]
  have p1 : 2 ^ (k + m + 1) = 2 ^ k * 2 ^ (m + 1) := by rw [show k + m + 1 = k + (m + 1) by omega, Nat.pow_add]
  have hkm1 : 2 ^ k ≤ 2 ^ (k + m) := Nat.pow_le_pow_right (by decide) (by omega)
  have hmm : 2 ^ m ≤ 2 ^ (k + m) := Nat.pow_le_pow_right (by decide) (by omega)
  have hq : k + m + 2 ≤ 32 := by omega
  have sp : ∀ r, r < 2 ^ (k + m + 2) → pcn 32 (2 ^ (k + m + 2) * A + r) = pcn (k + m + 2) r + pcn (32 - (k + m + 2)) A := fun r hr => by
    have := pcn_split hr A (32 - (k + m + 2))
    rw [show k + m + 2 + (32 - (k + m + 2)) = 32 by omega] at this; exact this
  have lo : ∀ r, r < 2 ^ k → pcn (k + m + 2) ((2 ^ (k + m + 1) - 2 ^ k) + r) = pcn k r + (m + 1) := fun r hr => by
    have hb0 : 0 < 2 ^ (m + 1) := Nat.pow_pos (by decide)
    have e : (2 ^ (k + m + 1) - 2 ^ k) + r = 2 ^ k * (2 ^ (m + 1) - 1) + r := by rw [Nat.mul_sub, Nat.mul_one, ← p1]
    rw [e, show k + m + 2 = k + (m + 2) by omega, pcn_split hr, pcn_le (q := m + 1) (r := 2 ^ (m + 1) - 1) (n := m + 2) (by omega) (by omega), pcn_full]
  have hi : ∀ r, r < 2 ^ (k + m + 1) → pcn (k + m + 2) (2 ^ (k + m + 1) + r) = pcn (k + m + 1) r + 1 := fun r hr => by
    have := pcn_split hr 1 1
    rw [Nat.mul_one] at this
    rw [show k + m + 2 = k + m + 1 + 1 from rfl, this]; rfl
  have ex : pcn 32 x = (m + 1) + pcn (32 - (k + m + 2)) A := by
    rw [e1, sp _ (by omega)]
    have this : pcn (k + m + 2) (2 ^ (k + m + 1) - 2 ^ k) = pcn k 0 + (m + 1) := lo 0 hk0
    rw [this]
    have z : pcn k 0 = 0 := bcnt_z (fun i _ => Nat.zero_testBit i)
    omega
  refine ⟨?_, fun y h1 h2 => ?_⟩
  · rw [e2, sp _ (by omega), hi _ (by omega), pcn_le (q := m) (by omega) (by omega), pcn_full, ex]
  · rw [ex]
    have hy : y = 2 ^ (k + m + 2) * A + (y - 2 ^ (k + m + 2) * A) := by omega
    rw [hy, sp _ (by omega)]
    rcases Nat.lt_or_ge (y - 2 ^ (k + m + 2) * A) (2 ^ (k + m + 1)) with g | g
    · have hr : y - 2 ^ (k + m + 2) * A = (2 ^ (k + m + 1) - 2 ^ k) + (y - 2 ^ (k + m + 2) * A - (2 ^ (k + m + 1) - 2 ^ k)) := by omega
      rw [hr, lo _ (by omega)]
      have := pcn_pos (q := k) (r := y - 2 ^ (k + m + 2) * A - (2 ^ (k + m + 1) - 2 ^ k)) (by omega) (by omega)
      omega
    · have hr : y - 2 ^ (k + m + 2) * A = 2 ^ (k + m + 1) + (y - 2 ^ (k + m + 2) * A - 2 ^ (k + m + 1)) := by omega
      rw [hr, hi _ (by omega), pcn_le (q := m) (by omega) (by omega)]
      have := pcn_lt (q := m) (r := y - 2 ^ (k + m + 2) * A - 2 ^ (k + m + 1)) (by omega) (by omega)
      omega
theorem nI_neg {x : Nat} (h : x ≤ 2 ^ 32) : -(nI x) = nI (2 ^ 32 - x) := by
  have e : nI (2 ^ 32 - x) + nI x = 0 := by rw [nI_add, show 2 ^ 32 - x + x = 2 ^ 32 by omega]; rfl
  grind
