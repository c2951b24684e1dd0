def b2i (b : Bool) : Int32 := if b = true then 1 else 0
theorem b2i_01 (b : Bool) : b2i b = 0 ∨ b2i b = 1 := by cases b <;> decide
theorem b2i_t {b : Bool} (h : b = true) : b2i b = nI 1 := by rw [h]; rfl
theorem b2i_f {b : Bool} (h : b = false) : b2i b = nI 0 := by rw [h]; rfl
theorem b2i_n (b : Bool) : b2i b = nI (if b = true then 1 else 0) := by cases b <;> rfl
theorem zb_if_eq {X : zX} {M : zM} {d k q pc : Nat} {L S : List Value} {n : Nat} {h : zH} {Q : zQ} {b : Bool} {off : Int} {tgt : Nat} (hd : decode M.2.1 pc = .ok (.ifCond .eq off, 3)) (ht : (pc : Int) + off = (tgt : Int)) (kt : b = false → zJ X M d k q tgt L S n h Q) (kf : b = true → zJ X M d k q (pc + 3) L S n h Q) : zJ X M d k q pc L (.int (b2i b) :: S) n h Q := by
  cases b
  · exact z_if_eq hd ht (fun _ => kt rfl) (fun hc => absurd rfl hc)
  · exact z_if_eq hd ht (fun hc => absurd hc (by decide)) (fun _ => kf rfl)
theorem zb_if_ne {X : zX} {M : zM} {d k q pc : Nat} {L S : List Value} {n : Nat} {h : zH} {Q : zQ} {b : Bool} {off : Int} {tgt : Nat} (hd : decode M.2.1 pc = .ok (.ifCond .ne off, 3)) (ht : (pc : Int) + off = (tgt : Int)) (kt : b = true → zJ X M d k q tgt L S n h Q) (kf : b = false → zJ X M d k q (pc + 3) L S n h Q) : zJ X M d k q pc L (.int (b2i b) :: S) n h Q := by
  cases b
  · exact z_if_ne hd ht (fun hc => absurd rfl hc) (fun _ => kf rfl)
  · exact z_if_ne hd ht (fun _ => kt rfl) (fun hc => absurd hc (by decide))
theorem qm_us : ∀ b, b < 32 → (((nI b).toUInt32 &&& Int32.toUInt32 31).toBitVec % 32).toNat = b := by decide +kernel
theorem zn_iushr {X : zX} {M : zM} {d k q pc : Nat} {L S : List Value} {n : Nat} {h : zH} {Q : zQ} {a b : Nat} (hd : decode M.2.1 pc = .ok (.iushr, 1)) (hb : b < 32) (ha : a < 2 ^ 32) (kk : zJ X M d k q (pc + 1) L (.int (nI (a / 2 ^ b)) :: S) n h Q) : zJ X M d k q pc L (.int (nI b) :: .int (nI a) :: S) n h Q := by
  refine z_iushr hd ?_
  rw [pk_ushrN ha (nI b) b (qm_us b hb)]
  exact kk
theorem z_eqL {X : zX} {M : zM} {d k q pc : Nat} {L L' S : List Value} {n : Nat} {h : zH} {Q : zQ} (kk : zJ X M d k q pc L S n h Q) (e : L = L') : zJ X M d k q pc L' S n h Q := e ▸ kk
theorem z_eqH {X : zX} {M : zM} {d k q pc : Nat} {L S : List Value} {n : Nat} {mu mu' : zmu} {nu : znu} {Q : zQ} (kk : zJ X M d k q pc L S n (zEE mu nu) Q) (e : mu = mu') : zJ X M d k q pc L S n (zEE mu' nu) Q := e ▸ kk
theorem bcnt_s (f : Nat → Bool) (n : Nat) : bcnt f (n + 1) = bcnt f n + (if f n = true then 1 else 0) := rfl
/-- how many bits -/
def popc (x : Nat) : Nat := bcnt (fun i => x.testBit i) 20
theorem bcnt_and (f : Nat → Bool) (n : Nat) : ∀ m, n ≤ m → bcnt (fun i => decide (i < n) && f i) m = bcnt f n
  | 0, h => by obtain rfl : n = 0 := by omega
               rfl
  | m + 1, h => by
    by_cases hm : n = m + 1
    · subst hm
      exact bcnt_congr (fun i hi => by simp [hi])
    · have ih := bcnt_and f n m (by omega)
      rw [bcnt_s, ih]
      have : ¬ m < n := by omega
      simp [this]
theorem popc_bset {f : Nat → Bool} {n : Nat} (h : n ≤ 20) : popc (bset f n) = bcnt f n := by
  unfold popc
  rw [bcnt_congr (g := fun i => decide (i < n) && f i) (fun i _ => bset_bit f n i)]
  exact bcnt_and f n 20 h
/-- the JDK's way of counting them -/
def swar1 (x : Nat) : Nat := x - (x / 2 &&& 1431655765)
def swar2 (x : Nat) : Nat := (x &&& 858993459) + (x / 4 &&& 858993459)
def swar3 (x : Nat) : Nat := (x + x / 16) &&& 252645135
def swar4 (x : Nat) : Nat := (x + x / 256) + (x + x / 256) / 65536 &&& 63
theorem and_cut (k : Nat) {a m : Nat} (ha : a < 2 ^ k) (hm : m < 2 ^ k) (A M : Nat) : (2 ^ k * A + a) &&& (2 ^ k * M + m) = 2 ^ k * (A &&& M) + (a &&& m) := by
  apply Nat.eq_of_testBit_eq
  intro i
  have hl : a &&& m < 2 ^ k := Nat.lt_of_le_of_lt Nat.and_le_left ha
  rw [Nat.testBit_and, Nat.testBit_two_pow_mul_add _ ha, Nat.testBit_two_pow_mul_add _ hm, Nat.testBit_two_pow_mul_add _ hl]
  split <;> simp [Nat.testBit_and]
theorem sw_try1 : tryN 256 (fun b => tryN 2 fun c => (b / 2 + 128 * c &&& 85) == (b / 2 &&& 85)) = true := by decide +kernel
theorem sw_try2 : tryN 256 (fun b => tryN 4 fun c => (b / 4 + 64 * c &&& 51) == (b / 4 &&& 51)) = true := by decide +kernel
theorem sw_try3 : tryN 256 (fun b => tryN 16 fun c => !(decide (b / 16 ≤ 4) && decide (b % 16 ≤ 4)) || (b + (b / 16 + 16 * c) &&& 15) == (b + b / 16 &&& 15)) = true := by decide +kernel
def sb1 (b : Nat) : Nat := b - (b / 2 &&& 85)
def sb2 (b : Nat) : Nat := (b &&& 51) + (b / 4 &&& 51)
def sb3 (b : Nat) : Nat := b + b / 16 &&& 15
theorem sw_try4 : tryN 256 (fun b => decide (sb1 b < 256) && decide (sb2 (sb1 b) < 256) && decide (sb2 (sb1 b) / 16 ≤ 4) && decide (sb2 (sb1 b) % 16 ≤ 4) && (sb3 (sb2 (sb1 b)) == bcnt (fun i => b.testBit i) 8)) = true := by decide +kernel
theorem swar1_cut {b A : Nat} (hb : b < 256) (M : Nat) (hM : M % 256 = 85) : b + 256 * A - ((b + 256 * A) / 2 &&& M) = sb1 b + 256 * (A - (A / 2 &&& M / 256)) := by
  have e1 : (b + 256 * A) / 2 = 2 ^ 8 * (A / 2) + (b / 2 + 128 * (A % 2)) := by omega
  have e2 : M = 2 ^ 8 * (M / 256) + 85 := by omega
  have e3 : (b + 256 * A) / 2 &&& M = 2 ^ 8 * (A / 2 &&& M / 256) + (b / 2 &&& 85) := by
    rw [e1, e2, and_cut 8 (by omega) (by omega)]
    have := tryN_at (tryN_at sw_try1 hb) (i := A % 2) (by omega)
    rw [beq_iff_eq] at this
    rw [this, show (2 ^ 8 * (M / 256) + 85) / 256 = M / 256 by omega]
  rw [e3]
  have h1 : b / 2 &&& 85 ≤ b / 2 := Nat.and_le_left
  have h2 : A / 2 &&& M / 256 ≤ A / 2 := Nat.and_le_left
  unfold sb1
  omega
theorem swar2_cut {b A : Nat} (hb : b < 256) (M : Nat) (hM : M % 256 = 51) : (b + 256 * A &&& M) + ((b + 256 * A) / 4 &&& M) = sb2 b + 256 * ((A &&& M / 256) + (A / 4 &&& M / 256)) := by
  have e1 : (b + 256 * A) / 4 = 2 ^ 8 * (A / 4) + (b / 4 + 64 * (A % 4)) := by omega
  have e0 : b + 256 * A = 2 ^ 8 * A + b := by omega
  have e2 : M = 2 ^ 8 * (M / 256) + 51 := by omega
  have e3 : (b + 256 * A) / 4 &&& M = 2 ^ 8 * (A / 4 &&& M / 256) + (b / 4 &&& 51) := by
    rw [e1, e2, and_cut 8 (by omega) (by omega)]
    have := tryN_at (tryN_at sw_try2 hb) (i := A % 4) (by omega)
    rw [beq_iff_eq] at this
    rw [this, show (2 ^ 8 * (M / 256) + 51) / 256 = M / 256 by omega]
  have e4 : b + 256 * A &&& M = 2 ^ 8 * (A &&& M / 256) + (b &&& 51) := by
    rw [e0, e2, and_cut 8 (by omega) (by omega), show (2 ^ 8 * (M / 256) + 51) / 256 = M / 256 by omega]
  rw [e3, e4]
  unfold sb2
  omega
theorem swar3_cut {b A : Nat} (hb : b < 256) (h1 : b / 16 ≤ 4) (h2 : b % 16 ≤ 4) (h3 : A % 16 ≤ 4) (M : Nat) (hM : M % 256 = 15) : (b + 256 * A) + (b + 256 * A) / 16 &&& M = sb3 b + 256 * (A + A / 16 &&& M / 256) := by
  have e1 : (b + 256 * A) + (b + 256 * A) / 16 = 2 ^ 8 * (A + A / 16) + (b + (b / 16 + 16 * (A % 16))) := by omega
  have e2 : M = 2 ^ 8 * (M / 256) + 15 := by omega
  rw [e1, e2, and_cut 8 (by omega) (by omega)]
  have := tryN_at (tryN_at sw_try3 hb) (i := A % 16) (by omega)
  simp only [h1, h2, decide_true, Bool.and_true, Bool.not_true, Bool.false_or, beq_iff_eq] at this
  rw [this, show (2 ^ 8 * (M / 256) + 15) / 256 = M / 256 by omega]
  unfold sb3
  omega
theorem bcnt_split (x : Nat) : ∀ (n m : Nat), bcnt (fun i => x.testBit i) (n + m) = bcnt (fun i => x.testBit i) n + bcnt (fun i => x.testBit (n + i)) m
  | n, 0 => by simp [bcnt]
  | n, m + 1 => by
    show bcnt (fun i => x.testBit i) (n + m + 1) = _
    rw [bcnt_s, bcnt_s, bcnt_split x n m]
    omega
theorem bit_lo {b A i : Nat} (hb : b < 256) (hi : i < 8) : (b + 256 * A).testBit i = b.testBit i := by
  rw [show b + 256 * A = 2 ^ 8 * A + b by omega, Nat.testBit_two_pow_mul_add _ hb, if_pos hi]
theorem bit_hi {b A i : Nat} (hb : b < 256) : (b + 256 * A).testBit (8 + i) = A.testBit i := by
  rw [show b + 256 * A = 2 ^ 8 * A + b by omega, Nat.testBit_two_pow_mul_add _ hb, if_neg (by omega)]
  congr 1; omega
theorem swar_popc {x : Nat} (hx : x < 2 ^ 20) : swar4 (swar3 (swar2 (swar1 x))) = popc x := by
  obtain ⟨b0, b1, b2, h0, h1, h2, rfl⟩ : ∃ b0 b1 b2, b0 < 256 ∧ b1 < 256 ∧ b2 < 16 ∧ x = b0 + 256 * (b1 + 256 * b2) := ⟨x % 256, x / 256 % 256, x / 65536, by omega, by omega, by omega, by omega⟩
  have t0 := tryN_at sw_try4 h0
  have t1 := tryN_at sw_try4 h1
  have t2 := tryN_at sw_try4 (i := b2) (by omega)
  simp only [Bool.and_eq_true, decide_eq_true_eq, beq_iff_eq] at t0 t1 t2
  have s1 : swar1 (b0 + 256 * (b1 + 256 * b2)) = sb1 b0 + 256 * (sb1 b1 + 256 * sb1 b2) := by
    unfold swar1
    rw [swar1_cut h0 _ (by decide), swar1_cut h1 _ (by decide)]
    have : b2 / 2 &&& 1431655765 / 256 / 256 = b2 / 2 &&& 85 := by
      have := tryN_at (show tryN 16 (fun b => (b / 2 &&& 1431655765 / 256 / 256) == (b / 2 &&& 85)) = true by decide +kernel) h2
      rwa [beq_iff_eq] at this
    rw [this]; rfl
  have s2 : swar2 (sb1 b0 + 256 * (sb1 b1 + 256 * sb1 b2)) = sb2 (sb1 b0) + 256 * (sb2 (sb1 b1) + 256 * sb2 (sb1 b2)) := by
    unfold swar2
    rw [swar2_cut t0.1.1.1.1 _ (by decide), swar2_cut t1.1.1.1.1 _ (by decide)]
    have := tryN_at (show tryN 16 (fun b => ((sb1 b &&& 858993459 / 256 / 256) + (sb1 b / 4 &&& 858993459 / 256 / 256)) == sb2 (sb1 b)) = true by decide +kernel) h2
    rw [beq_iff_eq] at this
    rw [this]
  have s3 : swar3 (sb2 (sb1 b0) + 256 * (sb2 (sb1 b1) + 256 * sb2 (sb1 b2))) = sb3 (sb2 (sb1 b0)) + 256 * (sb3 (sb2 (sb1 b1)) + 256 * sb3 (sb2 (sb1 b2))) := by
    unfold swar3
    rw [swar3_cut t0.1.1.1.2 t0.1.1.2 t0.1.2 (by omega) _ (by decide), swar3_cut t1.1.1.1.2 t1.1.1.2 t1.1.2 (by omega) _ (by decide)]
    have := tryN_at (show tryN 16 (fun b => (sb2 (sb1 b) + sb2 (sb1 b) / 16 &&& 252645135 / 256 / 256) == sb3 (sb2 (sb1 b))) = true by decide +kernel) h2
    rw [beq_iff_eq] at this
    rw [this]
  rw [s1, s2, s3, t0.2, t1.2, t2.2]
  have p8 : popc (b0 + 256 * (b1 + 256 * b2)) = bcnt (fun i => b0.testBit i) 8 + (bcnt (fun i => b1.testBit i) 8 + bcnt (fun i => b2.testBit i) 4) := by
    unfold popc
    rw [bcnt_split _ 8 12, bcnt_congr (g := fun i => b0.testBit i) (fun i hi => bit_lo h0 hi)]
    congr 1
    rw [bcnt_congr (g := fun i => (b1 + 256 * b2).testBit i) (fun i _ => bit_hi h0), bcnt_split _ 8 4, bcnt_congr (g := fun i => b1.testBit i) (fun i hi => bit_lo h1 hi)]
    congr 1
    exact bcnt_congr (fun i _ => bit_hi h1)
  have p4 : bcnt (fun i => b2.testBit i) 8 = bcnt (fun i => b2.testBit i) 4 := by
    have := tryN_at (show tryN 16 (fun b => bcnt (fun i => b.testBit i) 8 == bcnt (fun i => b.testBit i) 4) = true by decide +kernel) h2
    rwa [beq_iff_eq] at this
  rw [p8, p4]
  have q0 := bcnt_le (fun i => b0.testBit i) 8
  have q1 := bcnt_le (fun i => b1.testBit i) 8
  have q2 := bcnt_le (fun i => b2.testBit i) 4
  generalize bcnt (fun i => b0.testBit i) 8 = c0 at *
  generalize bcnt (fun i => b1.testBit i) 8 = c1 at *
  generalize bcnt (fun i => b2.testBit i) 4 = c2 at *
  unfold swar4
  have e1 : c0 + 256 * (c1 + 256 * c2) + (c0 + 256 * (c1 + 256 * c2)) / 256 = c0 + c1 + 256 * (c1 + c2) + 65536 * c2 := by omega
  have e2 : (c0 + c1 + 256 * (c1 + c2) + 65536 * c2) / 65536 = c2 := by omega
  rw [e1, e2]
  rw [show c0 + c1 + 256 * (c1 + c2) + 65536 * c2 + c2 = 2 ^ 6 * (4 * (c1 + c2) + 1024 * c2) + (c0 + c1 + c2) by omega, show (63 : Nat) = 2 ^ 6 * 0 + 63 from rfl, and_cut 6 (by omega) (by omega)]
  have := Nat.and_two_pow_sub_one_of_lt_two_pow (x := c0 + c1 + c2) (n := 6) (by omega)
  simp at this ⊢
  omega
