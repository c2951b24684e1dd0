theorem qm_or (a b : Nat) : nI a ||| nI b = nI (a ||| b) := by
  apply Int32.toBitVec_inj.mp
  show BitVec.ofNat 32 a ||| BitVec.ofNat 32 b = BitVec.ofNat 32 (a ||| b)
  apply BitVec.eq_of_toNat_eq
  simp [BitVec.toNat_or, Nat.or_mod_two_pow]
theorem qm_and (a b : Nat) : nI a &&& nI b = nI (a &&& b) := by
  apply Int32.toBitVec_inj.mp
  show BitVec.ofNat 32 a &&& BitVec.ofNat 32 b = BitVec.ofNat 32 (a &&& b)
  apply BitVec.eq_of_toNat_eq
  simp [BitVec.toNat_and, Nat.and_mod_two_pow]
theorem qm_xor (a b : Nat) : nI a ^^^ nI b = nI (a ^^^ b) := by
  apply Int32.toBitVec_inj.mp
  show BitVec.ofNat 32 a ^^^ BitVec.ofNat 32 b = BitVec.ofNat 32 (a ^^^ b)
  apply BitVec.eq_of_toNat_eq
  simp [BitVec.toNat_xor, Nat.xor_mod_two_pow]
theorem qm_31 : ∀ k, k < 32 → nI k &&& 31 = nI k := by decide +kernel
theorem qm_sm : ∀ k, k < 32 → ((nI k).toBitVec.smod 32).toNat = k := by decide +kernel
theorem qm_shl {a k : Nat} (hk : k < 32) (h : a * 2 ^ k < 2 ^ 32) : nI a <<< (nI k &&& 31) = nI (a * 2 ^ k) := by
  rw [qm_31 k hk]; exact pk_shlN (nI k) k (qm_sm k hk) h
theorem qm_shr {a k : Nat} (hk : k < 32) (h : a < 2 ^ 31) : nI a >>> (nI k &&& 31) = nI (a / 2 ^ k) := by
  rw [qm_31 k hk]; exact pk_shrN h (nI k) k (qm_sm k hk)
theorem zn_iadd {X : zX} {M : zM} {d k q pc : Nat} {L S : List Value} {n : Nat} {h : zH} {Q : zQ} {a b : Nat} (hd : decode M.2.1 pc = .ok (.iadd, 1)) (kk : zJ X M d k q (pc + 1) L (.int (nI (a + b)) :: S) n h Q) : zJ X M d k q pc L (.int (nI b) :: .int (nI a) :: S) n h Q := by
  refine z_iadd hd ?_
  rw [nI_add]
  exact kk
theorem zn_imul {X : zX} {M : zM} {d k q pc : Nat} {L S : List Value} {n : Nat} {h : zH} {Q : zQ} {a b : Nat} (hd : decode M.2.1 pc = .ok (.imul, 1)) (kk : zJ X M d k q (pc + 1) L (.int (nI (a * b)) :: S) n h Q) : zJ X M d k q pc L (.int (nI b) :: .int (nI a) :: S) n h Q := by
  refine z_imul hd ?_
  rw [pk_mul]
  exact kk
theorem zn_isub {X : zX} {M : zM} {d k q pc : Nat} {L S : List Value} {n : Nat} {h : zH} {Q : zQ} {a b : Nat} (hd : decode M.2.1 pc = .ok (.isub, 1)) (hb : b ≤ a) (kk : zJ X M d k q (pc + 1) L (.int (nI (a - b)) :: S) n h Q) : zJ X M d k q pc L (.int (nI b) :: .int (nI a) :: S) n h Q := by
  refine z_isub hd ?_
  rw [pk_sub hb]
  exact kk
theorem zn_idiv {X : zX} {M : zM} {d k q pc : Nat} {L S : List Value} {n : Nat} {h : zH} {Q : zQ} {a b : Nat} (hd : decode M.2.1 pc = .ok (.idiv, 1)) (ha : a < 2 ^ 31) (h0 : 0 < b) (hb : b < 2 ^ 31) (kk : zJ X M d k q (pc + 1) L (.int (nI (a / b)) :: S) n h Q) : zJ X M d k q pc L (.int (nI b) :: .int (nI a) :: S) n h Q := by
  refine z_idiv hd (nI_ne0 h0 hb) ?_
  rw [pk_div ha h0 hb]
  exact kk
theorem zn_irem {X : zX} {M : zM} {d k q pc : Nat} {L S : List Value} {n : Nat} {h : zH} {Q : zQ} {a b : Nat} (hd : decode M.2.1 pc = .ok (.irem, 1)) (ha : a < 2 ^ 31) (h0 : 0 < b) (hb : b < 2 ^ 31) (kk : zJ X M d k q (pc + 1) L (.int (nI (a % b)) :: S) n h Q) : zJ X M d k q pc L (.int (nI b) :: .int (nI a) :: S) n h Q := by
  refine z_irem hd (nI_ne0 h0 hb) ?_
  rw [pk_rem ha h0 hb]
  exact kk
theorem zn_iand {X : zX} {M : zM} {d k q pc : Nat} {L S : List Value} {n : Nat} {h : zH} {Q : zQ} {a b : Nat} (hd : decode M.2.1 pc = .ok (.iand, 1)) (kk : zJ X M d k q (pc + 1) L (.int (nI (a &&& b)) :: S) n h Q) : zJ X M d k q pc L (.int (nI b) :: .int (nI a) :: S) n h Q := by
  refine z_iand hd ?_
  rw [qm_and]
  exact kk
theorem zn_ior {X : zX} {M : zM} {d k q pc : Nat} {L S : List Value} {n : Nat} {h : zH} {Q : zQ} {a b : Nat} (hd : decode M.2.1 pc = .ok (.ior, 1)) (kk : zJ X M d k q (pc + 1) L (.int (nI (a ||| b)) :: S) n h Q) : zJ X M d k q pc L (.int (nI b) :: .int (nI a) :: S) n h Q := by
  refine z_ior hd ?_
  rw [qm_or]
  exact kk
theorem zn_ixor {X : zX} {M : zM} {d k q pc : Nat} {L S : List Value} {n : Nat} {h : zH} {Q : zQ} {a b : Nat} (hd : decode M.2.1 pc = .ok (.ixor, 1)) (kk : zJ X M d k q (pc + 1) L (.int (nI (a ^^^ b)) :: S) n h Q) : zJ X M d k q pc L (.int (nI b) :: .int (nI a) :: S) n h Q := by
  refine z_ixor hd ?_
  rw [qm_xor]
  exact kk
theorem zn_ishl {X : zX} {M : zM} {d k q pc : Nat} {L S : List Value} {n : Nat} {h : zH} {Q : zQ} {a b : Nat} (hd : decode M.2.1 pc = .ok (.ishl, 1)) (hb : b < 32) (ha : a * 2 ^ b < 2 ^ 32) (kk : zJ X M d k q (pc + 1) L (.int (nI (a * 2 ^ b)) :: S) n h Q) : zJ X M d k q pc L (.int (nI b) :: .int (nI a) :: S) n h Q := by
  refine z_ishl hd ?_
  rw [qm_shl hb ha]
  exact kk
theorem zn_ishr {X : zX} {M : zM} {d k q pc : Nat} {L S : List Value} {n : Nat} {h : zH} {Q : zQ} {a b : Nat} (hd : decode M.2.1 pc = .ok (.ishr, 1)) (hb : b < 32) (ha : a < 2 ^ 31) (kk : zJ X M d k q (pc + 1) L (.int (nI (a / 2 ^ b)) :: S) n h Q) : zJ X M d k q pc L (.int (nI b) :: .int (nI a) :: S) n h Q := by
  refine z_ishr hd ?_
  rw [qm_shr hb ha]
  exact kk
theorem zn_icmp_eq {X : zX} {M : zM} {d k q pc : Nat} {L S : List Value} {n : Nat} {h : zH} {Q : zQ} {a b : Nat} {off : Int} {tgt : Nat} (hd : decode M.2.1 pc = .ok (.if_icmp .eq off, 3)) (ht : (pc : Int) + off = (tgt : Int)) (ha : a < 2 ^ 31) (hb : b < 2 ^ 31) (kt : a = b → zJ X M d k q tgt L S n h Q) (kf : ¬ a = b → zJ X M d k q (pc + 3) L S n h Q) : zJ X M d k q pc L (.int (nI b) :: .int (nI a) :: S) n h Q :=
  z_icmp_eq hd ht (fun hc => kt ((nI_eq ha hb).mp hc)) (fun hc => kf (fun e => hc ((nI_eq ha hb).mpr e)))
theorem zn_icmp_ne {X : zX} {M : zM} {d k q pc : Nat} {L S : List Value} {n : Nat} {h : zH} {Q : zQ} {a b : Nat} {off : Int} {tgt : Nat} (hd : decode M.2.1 pc = .ok (.if_icmp .ne off, 3)) (ht : (pc : Int) + off = (tgt : Int)) (ha : a < 2 ^ 31) (hb : b < 2 ^ 31) (kt : ¬ a = b → zJ X M d k q tgt L S n h Q) (kf : a = b → zJ X M d k q (pc + 3) L S n h Q) : zJ X M d k q pc L (.int (nI b) :: .int (nI a) :: S) n h Q :=
  z_icmp_ne hd ht (fun hc => kt (fun e => hc ((nI_eq ha hb).mpr e))) (fun hc => kf ((nI_eq ha hb).mp hc))
theorem zn_icmp_lt {X : zX} {M : zM} {d k q pc : Nat} {L S : List Value} {n : Nat} {h : zH} {Q : zQ} {a b : Nat} {off : Int} {tgt : Nat} (hd : decode M.2.1 pc = .ok (.if_icmp .lt off, 3)) (ht : (pc : Int) + off = (tgt : Int)) (ha : a < 2 ^ 31) (hb : b < 2 ^ 31) (kt : a < b → zJ X M d k q tgt L S n h Q) (kf : b ≤ a → zJ X M d k q (pc + 3) L S n h Q) : zJ X M d k q pc L (.int (nI b) :: .int (nI a) :: S) n h Q :=
  z_icmp_lt hd ht (fun hc => kt ((nI_ltI ha hb).mp hc)) (fun hc => kf (Nat.le_of_not_lt (fun e => hc ((nI_ltI ha hb).mpr e))))
theorem zn_icmp_ge {X : zX} {M : zM} {d k q pc : Nat} {L S : List Value} {n : Nat} {h : zH} {Q : zQ} {a b : Nat} {off : Int} {tgt : Nat} (hd : decode M.2.1 pc = .ok (.if_icmp .ge off, 3)) (ht : (pc : Int) + off = (tgt : Int)) (ha : a < 2 ^ 31) (hb : b < 2 ^ 31) (kt : b ≤ a → zJ X M d k q tgt L S n h Q) (kf : a < b → zJ X M d k q (pc + 3) L S n h Q) : zJ X M d k q pc L (.int (nI b) :: .int (nI a) :: S) n h Q :=
  z_icmp_ge hd ht (fun hc => kt ((nI_leI hb ha).mp hc)) (fun hc => kf (Nat.lt_of_not_le (fun e => hc ((nI_leI hb ha).mpr e))))
theorem zn_icmp_gt {X : zX} {M : zM} {d k q pc : Nat} {L S : List Value} {n : Nat} {h : zH} {Q : zQ} {a b : Nat} {off : Int} {tgt : Nat} (hd : decode M.2.1 pc = .ok (.if_icmp .gt off, 3)) (ht : (pc : Int) + off = (tgt : Int)) (ha : a < 2 ^ 31) (hb : b < 2 ^ 31) (kt : b < a → zJ X M d k q tgt L S n h Q) (kf : a ≤ b → zJ X M d k q (pc + 3) L S n h Q) : zJ X M d k q pc L (.int (nI b) :: .int (nI a) :: S) n h Q :=
  z_icmp_gt hd ht (fun hc => kt ((nI_ltI hb ha).mp hc)) (fun hc => kf (Nat.le_of_not_lt (fun e => hc ((nI_ltI hb ha).mpr e))))
theorem zn_icmp_le {X : zX} {M : zM} {d k q pc : Nat} {L S : List Value} {n : Nat} {h : zH} {Q : zQ} {a b : Nat} {off : Int} {tgt : Nat} (hd : decode M.2.1 pc = .ok (.if_icmp .le off, 3)) (ht : (pc : Int) + off = (tgt : Int)) (ha : a < 2 ^ 31) (hb : b < 2 ^ 31) (kt : a ≤ b → zJ X M d k q tgt L S n h Q) (kf : b < a → zJ X M d k q (pc + 3) L S n h Q) : zJ X M d k q pc L (.int (nI b) :: .int (nI a) :: S) n h Q :=
  z_icmp_le hd ht (fun hc => kt ((nI_leI ha hb).mp hc)) (fun hc => kf (Nat.lt_of_not_le (fun e => hc ((nI_leI ha hb).mpr e))))
theorem zn_if_eq {X : zX} {M : zM} {d k q pc : Nat} {L S : List Value} {n : Nat} {h : zH} {Q : zQ} {a : Nat} {off : Int} {tgt : Nat} (hd : decode M.2.1 pc = .ok (.ifCond .eq off, 3)) (ht : (pc : Int) + off = (tgt : Int)) (ha : a < 2 ^ 31) (kt : a = 0 → zJ X M d k q tgt L S n h Q) (kf : ¬ a = 0 → zJ X M d k q (pc + 3) L S n h Q) : zJ X M d k q pc L (.int (nI a) :: S) n h Q :=
  z_if_eq hd ht (fun hc => kt ((nI_eq (b := 0) ha (by decide)).mp hc)) (fun hc => kf (fun e => hc ((nI_eq (b := 0) ha (by decide)).mpr e)))
theorem zn_if_ne {X : zX} {M : zM} {d k q pc : Nat} {L S : List Value} {n : Nat} {h : zH} {Q : zQ} {a : Nat} {off : Int} {tgt : Nat} (hd : decode M.2.1 pc = .ok (.ifCond .ne off, 3)) (ht : (pc : Int) + off = (tgt : Int)) (ha : a < 2 ^ 31) (kt : ¬ a = 0 → zJ X M d k q tgt L S n h Q) (kf : a = 0 → zJ X M d k q (pc + 3) L S n h Q) : zJ X M d k q pc L (.int (nI a) :: S) n h Q :=
  z_if_ne hd ht (fun hc => kt (fun e => hc ((nI_eq (b := 0) ha (by decide)).mpr e))) (fun hc => kf ((nI_eq (b := 0) ha (by decide)).mp hc))
theorem zn_if_lt {X : zX} {M : zM} {d k q pc : Nat} {L S : List Value} {n : Nat} {h : zH} {Q : zQ} {a : Nat} {off : Int} {tgt : Nat} (hd : decode M.2.1 pc = .ok (.ifCond .lt off, 3)) (ht : (pc : Int) + off = (tgt : Int)) (ha : a < 2 ^ 31) (kf : zJ X M d k q (pc + 3) L S n h Q) : zJ X M d k q pc L (.int (nI a) :: S) n h Q :=
  z_if_lt hd ht (fun hc => absurd hc (nI_pos ha)) (fun _ => kf)
theorem zn_if_ge {X : zX} {M : zM} {d k q pc : Nat} {L S : List Value} {n : Nat} {h : zH} {Q : zQ} {a : Nat} {off : Int} {tgt : Nat} (hd : decode M.2.1 pc = .ok (.ifCond .ge off, 3)) (ht : (pc : Int) + off = (tgt : Int)) (ha : a < 2 ^ 31) (kt : zJ X M d k q tgt L S n h Q) : zJ X M d k q pc L (.int (nI a) :: S) n h Q :=
  z_if_ge hd ht (fun _ => kt) (fun hc => absurd (nI_pos' ha) hc)
theorem zn_if_le {X : zX} {M : zM} {d k q pc : Nat} {L S : List Value} {n : Nat} {h : zH} {Q : zQ} {a : Nat} {off : Int} {tgt : Nat} (hd : decode M.2.1 pc = .ok (.ifCond .le off, 3)) (ht : (pc : Int) + off = (tgt : Int)) (ha : a < 2 ^ 31) (kt : a = 0 → zJ X M d k q tgt L S n h Q) (kf : 0 < a → zJ X M d k q (pc + 3) L S n h Q) : zJ X M d k q pc L (.int (nI a) :: S) n h Q :=
  z_if_le hd ht (fun hc => kt (Nat.le_zero.mp ((nI_leI (b := 0) ha (by decide)).mp hc))) (fun hc => kf (Nat.pos_of_ne_zero (fun e => hc ((nI_leI (b := 0) ha (by decide)).mpr (Nat.le_of_eq e)))))
theorem zn_if_gt {X : zX} {M : zM} {d k q pc : Nat} {L S : List Value} {n : Nat} {h : zH} {Q : zQ} {a : Nat} {off : Int} {tgt : Nat} (hd : decode M.2.1 pc = .ok (.ifCond .gt off, 3)) (ht : (pc : Int) + off = (tgt : Int)) (ha : a < 2 ^ 31) (kt : 0 < a → zJ X M d k q tgt L S n h Q) (kf : a = 0 → zJ X M d k q (pc + 3) L S n h Q) : zJ X M d k q pc L (.int (nI a) :: S) n h Q :=
  z_if_gt hd ht (fun hc => kt ((nI_ltI (a := 0) (by decide) ha).mp hc)) (fun hc => kf (Nat.eq_zero_of_not_pos (fun e => hc ((nI_ltI (a := 0) (by decide) ha).mpr e))))
theorem zn_iinc0 {X : zX} {M : zM} {d k q pc : Nat} {L S : List Value} {n : Nat} {h : zH} {Q : zQ} {a b : Nat} (hd : decode M.2.1 pc = .ok (.iinc 0 b, 3)) (kk : zJ X M d k q (pc + 3) (.int (nI (a + b)) :: L) S n h Q) : zJ X M d k q pc (.int (nI a) :: L) S n h Q :=
  z_iinc0 hd (by rw [← nI_add]; rfl) kk
theorem zn_iinc1 {X : zX} {M : zM} {d k q pc : Nat} {L S : List Value} {n : Nat} {h : zH} {Q : zQ} {x0 : Value} {a b : Nat} (hd : decode M.2.1 pc = .ok (.iinc 1 b, 3)) (hc : x0.category = 1) (kk : zJ X M d k q (pc + 3) (x0 :: .int (nI (a + b)) :: L) S n h Q) : zJ X M d k q pc (x0 :: .int (nI a) :: L) S n h Q :=
  z_iinc1 hd hc (by rw [← nI_add]; rfl) kk
theorem zn_iinc2 {X : zX} {M : zM} {d k q pc : Nat} {L S : List Value} {n : Nat} {h : zH} {Q : zQ} {x0 x1 : Value} {a b : Nat} (hd : decode M.2.1 pc = .ok (.iinc 2 b, 3)) (hc : x1.category = 1) (kk : zJ X M d k q (pc + 3) (x0 :: x1 :: .int (nI (a + b)) :: L) S n h Q) : zJ X M d k q pc (x0 :: x1 :: .int (nI a) :: L) S n h Q :=
  z_iinc2 hd hc (by rw [← nI_add]; rfl) kk
theorem zn_iinc3 {X : zX} {M : zM} {d k q pc : Nat} {L S : List Value} {n : Nat} {h : zH} {Q : zQ} {x0 x1 x2 : Value} {a b : Nat} (hd : decode M.2.1 pc = .ok (.iinc 3 b, 3)) (hc : x2.category = 1) (kk : zJ X M d k q (pc + 3) (x0 :: x1 :: x2 :: .int (nI (a + b)) :: L) S n h Q) : zJ X M d k q pc (x0 :: x1 :: x2 :: .int (nI a) :: L) S n h Q :=
  z_iinc3 hd hc (by rw [← nI_add]; rfl) kk
theorem zn_iinc4 {X : zX} {M : zM} {d k q pc : Nat} {L S : List Value} {n : Nat} {h : zH} {Q : zQ} {x0 x1 x2 x3 : Value} {a b : Nat} (hd : decode M.2.1 pc = .ok (.iinc 4 b, 3)) (hc : x3.category = 1) (kk : zJ X M d k q (pc + 3) (x0 :: x1 :: x2 :: x3 :: .int (nI (a + b)) :: L) S n h Q) : zJ X M d k q pc (x0 :: x1 :: x2 :: x3 :: .int (nI a) :: L) S n h Q :=
  z_iinc4 hd hc (by rw [← nI_add]; rfl) kk
theorem zn_iinc5 {X : zX} {M : zM} {d k q pc : Nat} {L S : List Value} {n : Nat} {h : zH} {Q : zQ} {x0 x1 x2 x3 x4 : Value} {a b : Nat} (hd : decode M.2.1 pc = .ok (.iinc 5 b, 3)) (hc : x4.category = 1) (kk : zJ X M d k q (pc + 3) (x0 :: x1 :: x2 :: x3 :: x4 :: .int (nI (a + b)) :: L) S n h Q) : zJ X M d k q pc (x0 :: x1 :: x2 :: x3 :: x4 :: .int (nI a) :: L) S n h Q :=
  z_iinc5 hd hc (by rw [← nI_add]; rfl) kk
theorem zn_iinc6 {X : zX} {M : zM} {d k q pc : Nat} {L S : List Value} {n : Nat} {h : zH} {Q : zQ} {x0 x1 x2 x3 x4 x5 : Value} {a b : Nat} (hd : decode M.2.1 pc = .ok (.iinc 6 b, 3)) (hc : x5.category = 1) (kk : zJ X M d k q (pc + 3) (x0 :: x1 :: x2 :: x3 :: x4 :: x5 :: .int (nI (a + b)) :: L) S n h Q) : zJ X M d k q pc (x0 :: x1 :: x2 :: x3 :: x4 :: x5 :: .int (nI a) :: L) S n h Q :=
  z_iinc6 hd hc (by rw [← nI_add]; rfl) kk
theorem zn_iinc7 {X : zX} {M : zM} {d k q pc : Nat} {L S : List Value} {n : Nat} {h : zH} {Q : zQ} {x0 x1 x2 x3 x4 x5 x6 : Value} {a b : Nat} (hd : decode M.2.1 pc = .ok (.iinc 7 b, 3)) (hc : x6.category = 1) (kk : zJ X M d k q (pc + 3) (x0 :: x1 :: x2 :: x3 :: x4 :: x5 :: x6 :: .int (nI (a + b)) :: L) S n h Q) : zJ X M d k q pc (x0 :: x1 :: x2 :: x3 :: x4 :: x5 :: x6 :: .int (nI a) :: L) S n h Q :=
  z_iinc7 hd hc (by rw [← nI_add]; rfl) kk
theorem zn_iinc8 {X : zX} {M : zM} {d k q pc : Nat} {L S : List Value} {n : Nat} {h : zH} {Q : zQ} {x0 x1 x2 x3 x4 x5 x6 x7 : Value} {a b : Nat} (hd : decode M.2.1 pc = .ok (.iinc 8 b, 3)) (hc : x7.category = 1) (kk : zJ X M d k q (pc + 3) (x0 :: x1 :: x2 :: x3 :: x4 :: x5 :: x6 :: x7 :: .int (nI (a + b)) :: L) S n h Q) : zJ X M d k q pc (x0 :: x1 :: x2 :: x3 :: x4 :: x5 :: x6 :: x7 :: .int (nI a) :: L) S n h Q :=
  z_iinc8 hd hc (by rw [← nI_add]; rfl) kk
theorem zn_iinc9 {X : zX} {M : zM} {d k q pc : Nat} {L S : List Value} {n : Nat} {h : zH} {Q : zQ} {x0 x1 x2 x3 x4 x5 x6 x7 x8 : Value} {a b : Nat} (hd : decode M.2.1 pc = .ok (.iinc 9 b, 3)) (hc : x8.category = 1) (kk : zJ X M d k q (pc + 3) (x0 :: x1 :: x2 :: x3 :: x4 :: x5 :: x6 :: x7 :: x8 :: .int (nI (a + b)) :: L) S n h Q) : zJ X M d k q pc (x0 :: x1 :: x2 :: x3 :: x4 :: x5 :: x6 :: x7 :: x8 :: .int (nI a) :: L) S n h Q :=
  z_iinc9 hd hc (by rw [← nI_add]; rfl) kk
theorem zn_iinc10 {X : zX} {M : zM} {d k q pc : Nat} {L S : List Value} {n : Nat} {h : zH} {Q : zQ} {x0 x1 x2 x3 x4 x5 x6 x7 x8 x9 : Value} {a b : Nat} (hd : decode M.2.1 pc = .ok (.iinc 10 b, 3)) (hc : x9.category = 1) (kk : zJ X M d k q (pc + 3) (x0 :: x1 :: x2 :: x3 :: x4 :: x5 :: x6 :: x7 :: x8 :: x9 :: .int (nI (a + b)) :: L) S n h Q) : zJ X M d k q pc (x0 :: x1 :: x2 :: x3 :: x4 :: x5 :: x6 :: x7 :: x8 :: x9 :: .int (nI a) :: L) S n h Q :=
  z_iinc10 hd hc (by rw [← nI_add]; rfl) kk
theorem zn_iinc11 {X : zX} {M : zM} {d k q pc : Nat} {L S : List Value} {n : Nat} {h : zH} {Q : zQ} {x0 x1 x2 x3 x4 x5 x6 x7 x8 x9 x10 : Value} {a b : Nat} (hd : decode M.2.1 pc = .ok (.iinc 11 b, 3)) (hc : x10.category = 1) (kk : zJ X M d k q (pc + 3) (x0 :: x1 :: x2 :: x3 :: x4 :: x5 :: x6 :: x7 :: x8 :: x9 :: x10 :: .int (nI (a + b)) :: L) S n h Q) : zJ X M d k q pc (x0 :: x1 :: x2 :: x3 :: x4 :: x5 :: x6 :: x7 :: x8 :: x9 :: x10 :: .int (nI a) :: L) S n h Q :=
  z_iinc11 hd hc (by rw [← nI_add]; rfl) kk
theorem z_top {X : zX} {M : zM} {d k q pc : Nat} {L S : List Value} {n : Nat} {h : zH} {Q : zQ} {x y : Int32} (e : x = y) (kk : zJ X M d k q pc L (.int y :: S) n h Q) : zJ X M d k q pc L (.int x :: S) n h Q := by rw [e]; exact kk
theorem y_getIe {X : zX} {M : zM} {d pc : Nat} {L S : List Value} {mu : zmu} {nu : znu} {Q : zq} {idx ci j a : Nat} {t : List Nat} {v : Int32} (hd : decode M.2.1 pc = .ok (.getfield idx, 3)) (hl : zfl M.1.cls idx ci j) (hk : zk a = (3, ci, t)) (ht : t[j]? = some 0) (hv : mu a j = v) (kk : zJ X M d 0 0 (pc + 3) L (.int v :: S) 86 (zEE mu nu) (zlift Q)) : zJ X M d 0 0 pc L (.ref a :: S) 86 (zEE mu nu) (zlift Q) := y_getI hd hl hk ht (by rw [hv]; exact kk)
theorem y_ialde {X : zX} {M : zM} {d pc : Nat} {L S : List Value} {mu : zmu} {nu : znu} {Q : zq} {a N : Nat} {t : List Nat} {i : Nat} {v : Int32} (hd : decode M.2.1 pc = .ok (.iaload, 1)) (hk : zk a = (0, N, t)) (hN : N < 1000) (hi : i < N) (hv : mu a i = v) (kk : zJ X M d 0 0 (pc + 1) L (.int v :: S) 86 (zEE mu nu) (zlift Q)) : zJ X M d 0 0 pc L (.int (nI i) :: .ref a :: S) 86 (zEE mu nu) (zlift Q) := y_iald hd hk hN hi (by rw [hv]; exact kk)
