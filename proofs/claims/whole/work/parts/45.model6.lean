theorem cf_try : tryN 5 (fun k => tryN 5 fun i => (decide (nI i < nI k) == decide (i < k)) && (decide (-(nI k) ≤ nI i) && ((k == 0) || (decide (¬ nI i < sI (true, k)) && (decide (-(sI (true, k)) ≤ nI i) == decide (k ≤ i)))))) = true := by decide +kernel
theorem cf_at {k i : Nat} (hk : k < 5) (hi : i < 5) : (nI i < nI k ↔ i < k) ∧ (-(nI k) ≤ nI i) ∧ (0 < k → ¬ nI i < sI (true, k) ∧ (-(sI (true, k)) ≤ nI i ↔ k ≤ i)) := by
  have h := tryN_at (tryN_at cf_try hk) hi
  simp only [Bool.and_eq_true, Bool.or_eq_true, beq_iff_eq, decide_eq_true_eq] at h
  obtain ⟨h1, h2, h3⟩ := h
  refine ⟨?_, h2, fun h0 => ?_⟩
  · exact decide_eq_decide.mp h1
  · rcases h3 with h3 | ⟨h3, h4⟩
    · omega
    · exact ⟨h3, decide_eq_decide.mp h4⟩
set_option maxRecDepth 4000 in
theorem m_cfxP {X : zX} {mu : zmu} {nu : znu} {p : PT} (hp : PV p) (hM : PM p mu) {c0 c k : Nat} {yy : Int32} (hc : c < pw p * ph p) (hk : k ≤ 4)  {rr : Option Value} (d : Nat) (kk : ∀ mu9, S81 mu mu9 → zJ X M_X9_cellFrom (d + 2) 0 0 43 [.ref 66, .int (nI c0), .int (nI k), .int yy, .int (nI (wlk (pw p) (ph p) (pd p) 1 (c) k)), .int (nI k)] [] 86 (zEE (mu9) (nu)) (zlift (QS1 rr mu nu))) : ∀ n i mu1, i + n = k → S81 mu mu1 → zJ X M_X9_cellFrom (d + 2) 0 0 6 [.ref 66, .int (nI c0), .int (nI k), .int yy, .int (nI (wlk (pw p) (ph p) (pd p) 1 (c) i)), .int (nI i)] [] 86 (zEE (mu1) (nu)) (zlift (QS1 rr mu nu)) := by
  intro n
  induction n with
  | zero =>
    intro i mu1 hi
    intro hS
    have hik : i = k := by omega
    subst i
    refine z_iload dX9_cellFrom_6 rfl ?_
    refine z_iload_n dX9_cellFrom_8 rfl ?_
    refine z_icmp_lt (tgt := 19) dX9_cellFrom_9 (by decide) (fun hc9 => by exact absurd ((cf_at (by omega) (by omega)).1.mp hc9) (by omega)) (fun hc9 => ?_)
    refine z_iload dX9_cellFrom_12 rfl ?_
    refine z_iload_n dX9_cellFrom_14 rfl ?_
    refine z_ineg dX9_cellFrom_15 ?_
    refine z_icmp_ge (tgt := 43) dX9_cellFrom_16 (by decide) (fun hc16 => ?_) (fun hc16 => by exact absurd (cf_at (k := k) (i := k) (by omega) (by omega)).2.1 hc16)
    exact kk mu1 hS
  | succ n ih =>
    intro i mu1 hi
    intro hS
    refine z_iload dX9_cellFrom_6 rfl ?_
    refine z_iload_n dX9_cellFrom_8 rfl ?_
    refine z_icmp_lt (tgt := 19) dX9_cellFrom_9 (by decide) (fun hc9 => ?_) (fun hc9 => by exact absurd ((cf_at (by omega) (by omega)).1.mpr (by omega)) hc9)
    refine z_aload_n dX9_cellFrom_19 rfl ?_
    refine z_iload dX9_cellFrom_20 rfl ?_
    refine z_iload_n dX9_cellFrom_22 rfl ?_
    refine z_if_ge (tgt := 30) dX9_cellFrom_23 (by decide) (fun hc23 => ?_) (fun hc23 => by exact absurd (Int32.not_lt.mp (nI_pos (n := k) (by omega))) hc23)
    refine z_iconst (v := nI 1) dX9_cellFrom_30 rfl ?_
    refine z_iconst (v := nI 0) dX9_cellFrom_31 rfl ?_
    refine y_callV3 (M' := M_X9_cellBeside) dX9_cellFrom_32 lm_X9_187 cv_X9_cellBeside rfl (Nat.le_of_ble_eq_true rfl) (Nat.le_of_ble_eq_true rfl) rfl (m_cellBeside hp (PM_S hM hS) (wlk_lt hp hc (show 1 < 4 by decide) i) (y := 1) (by decide) false _) (fun r mu2 nu2 hq2 => ?_)
    obtain ⟨rfl, rfl, hS2⟩ := hq2
    refine z_istore4 dX9_cellFrom_35 rfl ?_
    refine zn_iinc5 dX9_cellFrom_37 rfl ?_
    refine z_goto (tgt := 6) dX9_cellFrom_40 (by decide) ?_
    exact ih (i + 1) mu2 (by omega) (S81_tr hS hS2)
set_option maxRecDepth 4000 in
theorem m_cfxN {X : zX} {mu : zmu} {nu : znu} {p : PT} (hp : PV p) (hM : PM p mu) {c0 c k : Nat} {yy : Int32} (hc : c < pw p * ph p) (hk : k ≤ 4) (h0 : 0 < k) {rr : Option Value} (d : Nat) (kk : ∀ mu9, S81 mu mu9 → zJ X M_X9_cellFrom (d + 2) 0 0 43 [.ref 66, .int (nI c0), .int (sI (true, k)), .int yy, .int (nI (wlk (pw p) (ph p) (pd p) 0 (c) k)), .int (nI k)] [] 86 (zEE (mu9) (nu)) (zlift (QS1 rr mu nu))) : ∀ n i mu1, i + n = k → S81 mu mu1 → zJ X M_X9_cellFrom (d + 2) 0 0 6 [.ref 66, .int (nI c0), .int (sI (true, k)), .int yy, .int (nI (wlk (pw p) (ph p) (pd p) 0 (c) i)), .int (nI i)] [] 86 (zEE (mu1) (nu)) (zlift (QS1 rr mu nu)) := by
  intro n
  induction n with
  | zero =>
    intro i mu1 hi
    intro hS
    have hik : i = k := by omega
    subst i
    refine z_iload dX9_cellFrom_6 rfl ?_
    refine z_iload_n dX9_cellFrom_8 rfl ?_
    refine z_icmp_lt (tgt := 19) dX9_cellFrom_9 (by decide) (fun hc9 => by exact absurd hc9 ((cf_at (by omega) (by omega)).2.2 h0).1) (fun hc9 => ?_)
    refine z_iload dX9_cellFrom_12 rfl ?_
    refine z_iload_n dX9_cellFrom_14 rfl ?_
    refine z_ineg dX9_cellFrom_15 ?_
    refine z_icmp_ge (tgt := 43) dX9_cellFrom_16 (by decide) (fun hc16 => ?_) (fun hc16 => by exact absurd (((cf_at (k := k) (i := k) (by omega) (by omega)).2.2 h0).2.mpr (Nat.le_refl _)) hc16)
    exact kk mu1 hS
  | succ n ih =>
    intro i mu1 hi
    intro hS
    refine z_iload dX9_cellFrom_6 rfl ?_
    refine z_iload_n dX9_cellFrom_8 rfl ?_
    refine z_icmp_lt (tgt := 19) dX9_cellFrom_9 (by decide) (fun hc9 => by exact absurd hc9 ((cf_at (by omega) (by omega)).2.2 h0).1) (fun hc9 => ?_)
    refine z_iload dX9_cellFrom_12 rfl ?_
    refine z_iload_n dX9_cellFrom_14 rfl ?_
    refine z_ineg dX9_cellFrom_15 ?_
    refine z_icmp_ge (tgt := 43) dX9_cellFrom_16 (by decide) (fun hc16 => by exact absurd (((cf_at (by omega) (by omega)).2.2 h0).2.mp hc16) (by omega)) (fun hc16 => ?_)
    refine z_aload_n dX9_cellFrom_19 rfl ?_
    refine z_iload dX9_cellFrom_20 rfl ?_
    refine z_iload_n dX9_cellFrom_22 rfl ?_
    refine z_if_ge (tgt := 30) dX9_cellFrom_23 (by decide) (fun hc23 => by exact absurd hc23 ((sI_abs (z := (true, k)) ⟨by omega, fun _ => h0⟩).2.2.1 rfl)) (fun hc23 => ?_)
    refine z_iconst (v := nI 0) dX9_cellFrom_26 rfl ?_
    refine z_goto (tgt := 31) dX9_cellFrom_27 (by decide) ?_
    refine z_iconst (v := nI 0) dX9_cellFrom_31 rfl ?_
    refine y_callV3 (M' := M_X9_cellBeside) dX9_cellFrom_32 lm_X9_187 cv_X9_cellBeside rfl (Nat.le_of_ble_eq_true rfl) (Nat.le_of_ble_eq_true rfl) rfl (m_cellBeside hp (PM_S hM hS) (wlk_lt hp hc (show 0 < 4 by decide) i) (y := 0) (by decide) false _) (fun r mu2 nu2 hq2 => ?_)
    obtain ⟨rfl, rfl, hS2⟩ := hq2
    refine z_istore4 dX9_cellFrom_35 rfl ?_
    refine zn_iinc5 dX9_cellFrom_37 rfl ?_
    refine z_goto (tgt := 6) dX9_cellFrom_40 (by decide) ?_
    exact ih (i + 1) mu2 (by omega) (S81_tr hS hS2)
set_option maxRecDepth 4000 in
theorem m_cfyP {X : zX} {mu : zmu} {nu : znu} {p : PT} (hp : PV p) (hM : PM p mu) {c0 c k : Nat} {xx : Int32} (hc : c < pw p * ph p) (hk : k ≤ 4)  {rr : Option Value} (d : Nat) (kk : ∀ mu9, S81 mu mu9 → zJ X M_X9_cellFrom (d + 2) 0 0 83 [.ref 66, .int (nI c0), .int xx, .int (nI k), .int (nI (wlk (pw p) (ph p) (pd p) 3 (c) k)), .int (nI k)] [] 86 (zEE (mu9) (nu)) (zlift (QS1 rr mu nu))) : ∀ n i mu1, i + n = k → S81 mu mu1 → zJ X M_X9_cellFrom (d + 2) 0 0 46 [.ref 66, .int (nI c0), .int xx, .int (nI k), .int (nI (wlk (pw p) (ph p) (pd p) 3 (c) i)), .int (nI i)] [] 86 (zEE (mu1) (nu)) (zlift (QS1 rr mu nu)) := by
  intro n
  induction n with
  | zero =>
    intro i mu1 hi
    intro hS
    have hik : i = k := by omega
    subst i
    refine z_iload dX9_cellFrom_46 rfl ?_
    refine z_iload_n dX9_cellFrom_48 rfl ?_
    refine z_icmp_lt (tgt := 59) dX9_cellFrom_49 (by decide) (fun hc49 => by exact absurd ((cf_at (by omega) (by omega)).1.mp hc49) (by omega)) (fun hc49 => ?_)
    refine z_iload dX9_cellFrom_52 rfl ?_
    refine z_iload_n dX9_cellFrom_54 rfl ?_
    refine z_ineg dX9_cellFrom_55 ?_
    refine z_icmp_ge (tgt := 83) dX9_cellFrom_56 (by decide) (fun hc56 => ?_) (fun hc56 => by exact absurd (cf_at (k := k) (i := k) (by omega) (by omega)).2.1 hc56)
    exact kk mu1 hS
  | succ n ih =>
    intro i mu1 hi
    intro hS
    refine z_iload dX9_cellFrom_46 rfl ?_
    refine z_iload_n dX9_cellFrom_48 rfl ?_
    refine z_icmp_lt (tgt := 59) dX9_cellFrom_49 (by decide) (fun hc49 => ?_) (fun hc49 => by exact absurd ((cf_at (by omega) (by omega)).1.mpr (by omega)) hc49)
    refine z_aload_n dX9_cellFrom_59 rfl ?_
    refine z_iload dX9_cellFrom_60 rfl ?_
    refine z_iload_n dX9_cellFrom_62 rfl ?_
    refine z_if_ge (tgt := 70) dX9_cellFrom_63 (by decide) (fun hc63 => ?_) (fun hc63 => by exact absurd (Int32.not_lt.mp (nI_pos (n := k) (by omega))) hc63)
    refine z_iconst (v := nI 3) dX9_cellFrom_70 rfl ?_
    refine z_iconst (v := nI 0) dX9_cellFrom_71 rfl ?_
    refine y_callV3 (M' := M_X9_cellBeside) dX9_cellFrom_72 lm_X9_187 cv_X9_cellBeside rfl (Nat.le_of_ble_eq_true rfl) (Nat.le_of_ble_eq_true rfl) rfl (m_cellBeside hp (PM_S hM hS) (wlk_lt hp hc (show 3 < 4 by decide) i) (y := 3) (by decide) false _) (fun r mu2 nu2 hq2 => ?_)
    obtain ⟨rfl, rfl, hS2⟩ := hq2
    refine z_istore4 dX9_cellFrom_75 rfl ?_
    refine zn_iinc5 dX9_cellFrom_77 rfl ?_
    refine z_goto (tgt := 46) dX9_cellFrom_80 (by decide) ?_
    exact ih (i + 1) mu2 (by omega) (S81_tr hS hS2)
set_option maxRecDepth 4000 in
theorem m_cfyN {X : zX} {mu : zmu} {nu : znu} {p : PT} (hp : PV p) (hM : PM p mu) {c0 c k : Nat} {xx : Int32} (hc : c < pw p * ph p) (hk : k ≤ 4) (h0 : 0 < k) {rr : Option Value} (d : Nat) (kk : ∀ mu9, S81 mu mu9 → zJ X M_X9_cellFrom (d + 2) 0 0 83 [.ref 66, .int (nI c0), .int xx, .int (sI (true, k)), .int (nI (wlk (pw p) (ph p) (pd p) 2 (c) k)), .int (nI k)] [] 86 (zEE (mu9) (nu)) (zlift (QS1 rr mu nu))) : ∀ n i mu1, i + n = k → S81 mu mu1 → zJ X M_X9_cellFrom (d + 2) 0 0 46 [.ref 66, .int (nI c0), .int xx, .int (sI (true, k)), .int (nI (wlk (pw p) (ph p) (pd p) 2 (c) i)), .int (nI i)] [] 86 (zEE (mu1) (nu)) (zlift (QS1 rr mu nu)) := by
  intro n
  induction n with
  | zero =>
    intro i mu1 hi
    intro hS
    have hik : i = k := by omega
    subst i
    refine z_iload dX9_cellFrom_46 rfl ?_
    refine z_iload_n dX9_cellFrom_48 rfl ?_
    refine z_icmp_lt (tgt := 59) dX9_cellFrom_49 (by decide) (fun hc49 => by exact absurd hc49 ((cf_at (by omega) (by omega)).2.2 h0).1) (fun hc49 => ?_)
    refine z_iload dX9_cellFrom_52 rfl ?_
    refine z_iload_n dX9_cellFrom_54 rfl ?_
    refine z_ineg dX9_cellFrom_55 ?_
    refine z_icmp_ge (tgt := 83) dX9_cellFrom_56 (by decide) (fun hc56 => ?_) (fun hc56 => by exact absurd (((cf_at (k := k) (i := k) (by omega) (by omega)).2.2 h0).2.mpr (Nat.le_refl _)) hc56)
    exact kk mu1 hS
  | succ n ih =>
    intro i mu1 hi
    intro hS
    refine z_iload dX9_cellFrom_46 rfl ?_
    refine z_iload_n dX9_cellFrom_48 rfl ?_
    refine z_icmp_lt (tgt := 59) dX9_cellFrom_49 (by decide) (fun hc49 => by exact absurd hc49 ((cf_at (by omega) (by omega)).2.2 h0).1) (fun hc49 => ?_)
    refine z_iload dX9_cellFrom_52 rfl ?_
    refine z_iload_n dX9_cellFrom_54 rfl ?_
    refine z_ineg dX9_cellFrom_55 ?_
    refine z_icmp_ge (tgt := 83) dX9_cellFrom_56 (by decide) (fun hc56 => by exact absurd (((cf_at (by omega) (by omega)).2.2 h0).2.mp hc56) (by omega)) (fun hc56 => ?_)
    refine z_aload_n dX9_cellFrom_59 rfl ?_
    refine z_iload dX9_cellFrom_60 rfl ?_
    refine z_iload_n dX9_cellFrom_62 rfl ?_
    refine z_if_ge (tgt := 70) dX9_cellFrom_63 (by decide) (fun hc63 => by exact absurd hc63 ((sI_abs (z := (true, k)) ⟨by omega, fun _ => h0⟩).2.2.1 rfl)) (fun hc63 => ?_)
    refine z_iconst (v := nI 2) dX9_cellFrom_66 rfl ?_
    refine z_goto (tgt := 71) dX9_cellFrom_67 (by decide) ?_
    refine z_iconst (v := nI 0) dX9_cellFrom_71 rfl ?_
    refine y_callV3 (M' := M_X9_cellBeside) dX9_cellFrom_72 lm_X9_187 cv_X9_cellBeside rfl (Nat.le_of_ble_eq_true rfl) (Nat.le_of_ble_eq_true rfl) rfl (m_cellBeside hp (PM_S hM hS) (wlk_lt hp hc (show 2 < 4 by decide) i) (y := 2) (by decide) false _) (fun r mu2 nu2 hq2 => ?_)
    obtain ⟨rfl, rfl, hS2⟩ := hq2
    refine z_istore4 dX9_cellFrom_75 rfl ?_
    refine zn_iinc5 dX9_cellFrom_77 rfl ?_
    refine z_goto (tgt := 46) dX9_cellFrom_80 (by decide) ?_
    exact ih (i + 1) mu2 (by omega) (S81_tr hS hS2)
theorem sI_P (k : Nat) : sI (false, k) = nI k := rfl
set_option maxRecDepth 4000 in
theorem m_cellFrom {X : zX} {mu : zmu} {nu : znu} {p : PT} (hp : PV p) (hM : PM p mu) {c : Nat} {x y : Bool × Nat} (hc : c < pw p * ph p) (hx : sV x) (hy : sV y) (d : Nat) : zJ X M_X9_cellFrom (d + 2) 0 0 0 [.ref 66, .int (nI c), .int (sI x), .int (sI y), zu, zu] [] 86 (zEE (mu) (nu)) (zlift (QS1 (some (.int (nI (offc p x y c)))) mu nu)) := by
  obtain ⟨xs, xk⟩ := x
  obtain ⟨ys, yk⟩ := y
  have hx4 : xk ≤ 4 := hx.1
  have hy4 : yk ≤ 4 := hy.1
  refine z_iload_n dX9_cellFrom_0 rfl ?_
  refine z_istore4 dX9_cellFrom_1 rfl ?_
  refine z_iconst (v := nI 0) dX9_cellFrom_3 rfl ?_
  refine z_istore5 dX9_cellFrom_4 rfl ?_
  cases xs with
  | false =>
    have hw1 := wlk_lt hp hc (show 1 < 4 by decide) xk
    refine m_cfxP (rr := some (.int (nI (offc p (false, xk) (ys, yk) c)))) hp hM hc hx4 d (fun mu9 hS9 => ?_) xk 0 mu (by omega) S81_rf
    refine z_iconst (v := nI 0) dX9_cellFrom_43 rfl ?_
    refine z_istore5 dX9_cellFrom_44 rfl ?_
    cases ys with
    | false =>
      refine zJ_mono (m_cfyP (mu := mu9) (rr := some (.int (nI (offc p (false, xk) (false, yk) c)))) hp (PM_S hM hS9) hw1 hy4 d (fun mu8 hS8 => ?_) yk 0 mu9 (by omega) S81_rf) (fun r m1 n1 hq => ⟨hq.1, hq.2.1, S81_tr hS9 hq.2.2⟩)
      refine z_iload dX9_cellFrom_83 rfl ?_
      exact y_ireturn dX9_cellFrom_85 rfl ⟨rfl, rfl, hS8⟩
    | true =>
      refine zJ_mono (m_cfyN (mu := mu9) (rr := some (.int (nI (offc p (false, xk) (true, yk) c)))) hp (PM_S hM hS9) hw1 hy4 (hy.2 rfl) d (fun mu8 hS8 => ?_) yk 0 mu9 (by omega) S81_rf) (fun r m1 n1 hq => ⟨hq.1, hq.2.1, S81_tr hS9 hq.2.2⟩)
      refine z_iload dX9_cellFrom_83 rfl ?_
      exact y_ireturn dX9_cellFrom_85 rfl ⟨rfl, rfl, hS8⟩
  | true =>
    have hw1 := wlk_lt hp hc (show 0 < 4 by decide) xk
    refine m_cfxN (rr := some (.int (nI (offc p (true, xk) (ys, yk) c)))) hp hM hc hx4 (hx.2 rfl) d (fun mu9 hS9 => ?_) xk 0 mu (by omega) S81_rf
    refine z_iconst (v := nI 0) dX9_cellFrom_43 rfl ?_
    refine z_istore5 dX9_cellFrom_44 rfl ?_
    cases ys with
    | false =>
      refine zJ_mono (m_cfyP (mu := mu9) (rr := some (.int (nI (offc p (true, xk) (false, yk) c)))) hp (PM_S hM hS9) hw1 hy4 d (fun mu8 hS8 => ?_) yk 0 mu9 (by omega) S81_rf) (fun r m1 n1 hq => ⟨hq.1, hq.2.1, S81_tr hS9 hq.2.2⟩)
      refine z_iload dX9_cellFrom_83 rfl ?_
      exact y_ireturn dX9_cellFrom_85 rfl ⟨rfl, rfl, hS8⟩
    | true =>
      refine zJ_mono (m_cfyN (mu := mu9) (rr := some (.int (nI (offc p (true, xk) (true, yk) c)))) hp (PM_S hM hS9) hw1 hy4 (hy.2 rfl) d (fun mu8 hS8 => ?_) yk 0 mu9 (by omega) S81_rf) (fun r m1 n1 hq => ⟨hq.1, hq.2.1, S81_tr hS9 hq.2.2⟩)
      refine z_iload dX9_cellFrom_83 rfl ?_
      exact y_ireturn dX9_cellFrom_85 rfl ⟨rfl, rfl, hS8⟩
def sfK (f : Nat → Bool) : Nat → Bool
  | 0 => true
  | i + 1 => sfK f i && f i
theorem sfK_all (f : Nat → Bool) : ∀ n, sfK f n = (List.range n).all f
  | 0 => rfl
  | n + 1 => by rw [List.range_succ, List.all_append, ← sfK_all f n]; simp [sfK]
theorem sfK_s (f : Nat → Bool) (i : Nat) : sfK f (i + 1) = (sfK f i && f i) := rfl
def sfF (A : AS) (c i : Nat) : Bool := kdk (pK (aP A)) (aN A).2 (offc (aP A) ((aS A).2.1 i) ((aS A).2.2.1 i) c) == (aS A).2.2.2 i
theorem sof_K (A : AS) (c : Nat) : sof (aP A) (aN A).2 (aS A).2.1 (aS A).2.2.1 (aS A).2.2.2 (aS A).1 c = sfK (sfF A c) (aS A).1 := by rw [sfK_all]; rfl
set_option maxRecDepth 4000 in
theorem r_standsIn {X : zX} {mu : zmu} {nu : znu} {A : AS} (hA : AV A) (hC : MR A mu nu) {c bb : Nat} {Q : zq} (hc : c < pw (aP A) * ph (aP A)) (d : Nat) (kk : ∀ mu9, S81 mu mu9 → zJ X M_X9_stands (d + 10) 0 0 89 [.ref 66, .int (nI bb), .int (nI c), .int (b2i (sfK (sfF A c) (aS A).1)), .int (nI (aS A).1)] [] 86 (zEE (mu9) (nu)) (zlift (Q))) : ∀ n i mu1, i + n = (aS A).1 → S81 mu mu1 → zJ X M_X9_stands (d + 10) 0 0 27 [.ref 66, .int (nI bb), .int (nI c), .int (b2i (sfK (sfF A c) i)), .int (nI i)] [] 86 (zEE (mu1) (nu)) (zlift (Q)) := by
  intro n
  induction n with
  | zero =>
    intro i mu1 hi
    have hp := hA.1
    have hV := hA.2.1
    have h20 : pw (aP A) * ph (aP A) ≤ 20 := hA.n
    have h5 := hA.b
    have h6 := hA.2.2.2.2.1.1
    intro hS
    obtain ⟨hM, hG, hB, hKe, hE, hT, hD⟩ := MR_s hC (Sm_S hS)
    obtain rfl : i = (aS A).1 := by omega
    refine z_iload dX9_stands_27 rfl ?_
    refine z_aload_n dX9_stands_29 rfl ?_
    refine y_getIe dX9_stands_30 lf_X9_177 rfl rfl hE.1 ?_
    refine zn_icmp_ge (tgt := 89) dX9_stands_33 (by decide) (by omega) (by omega) (fun hc33 => ?_) (fun hc33 => by exact absurd hc33 (Nat.lt_irrefl _))
    exact kk mu1 hS
  | succ n ih =>
    intro i mu1 hi
    have hp := hA.1
    have hV := hA.2.1
    have h20 : pw (aP A) * ph (aP A) ≤ 20 := hA.n
    have h5 := hA.b
    have h6 := hA.2.2.2.2.1.1
    intro hS
    obtain ⟨hM, hG, hB, hKe, hE, hT, hD⟩ := MR_s hC (Sm_S hS)
    have hv := hA.2.2.2.2.1.2 i (by omega)
    have ho := offc_lt hp (x := (aS A).2.1 i) (y := (aS A).2.2.1 i) hc
    have hk3 := kdk_le hp (cut := (aN A).2) ho
    refine z_iload dX9_stands_27 rfl ?_
    refine z_aload_n dX9_stands_29 rfl ?_
    refine y_getIe dX9_stands_30 lf_X9_177 rfl rfl hE.1 ?_
    refine zn_icmp_ge (tgt := 89) dX9_stands_33 (by decide) (by omega) (by omega) (fun hc33 => by omega) (fun hc33 => ?_)
    refine z_iload_n dX9_stands_36 rfl ?_
    refine zb_if_eq (tgt := 81) dX9_stands_37 (by decide) (fun hc37 => ?_) (fun hc37 => ?_)
    · refine z_iconst (v := nI 0) dX9_stands_81 rfl ?_
      refine z_istore3 dX9_stands_82 rfl ?_
      refine zn_iinc4 dX9_stands_83 rfl ?_
      refine z_goto (tgt := 27) dX9_stands_86 (by decide) ?_
      have e : sfK (sfF A c) (i + 1) = false := by rw [sfK_s, hc37]; rfl
      have k := ih (i + 1) mu1 (by omega) hS
      rw [e] at k; exact k
    · refine z_aload_n dX9_stands_40 rfl ?_
      refine z_aload_n dX9_stands_41 rfl ?_
      refine y_getR dX9_stands_42 lf_X9_35 rfl rfl ?_
      refine z_aload_n dX9_stands_45 rfl ?_
      refine z_iload_n dX9_stands_46 rfl ?_
      refine z_aload_n dX9_stands_47 rfl ?_
      refine y_getR dX9_stands_48 lf_X9_51 rfl rfl ?_
      refine z_iload dX9_stands_51 rfl ?_
      refine y_ialde dX9_stands_53 rfl (by decide) (by omega) (hE.2 i (by omega)).1 ?_
      refine z_aload_n dX9_stands_54 rfl ?_
      refine y_getR dX9_stands_55 lf_X9_54 rfl rfl ?_
      refine z_iload dX9_stands_58 rfl ?_
      refine y_ialde dX9_stands_60 rfl (by decide) (by omega) (hE.2 i (by omega)).2.1 ?_
      refine y_callV3 (M' := M_X9_cellFrom) dX9_stands_61 lm_X9_265 cv_X9_cellFrom rfl (Nat.le_of_ble_eq_true rfl) (Nat.le_of_ble_eq_true rfl) rfl (m_cellFrom hp hM hc hv.1 hv.2.1 _) (fun r mu2 nu2 hq2 => ?_)
      obtain ⟨rfl, rfl, hS2⟩ := hq2
      have hSS := S81_tr hS hS2
      refine y_callV2x (M' := M_X9_kindOf) dX9_stands_64 lm_X9_144 cv_X9_kindOf rfl (Nat.le_of_ble_eq_true rfl) (Nat.le_of_ble_eq_true rfl) rfl (m_kindOf hp (PM_S hM hS2) p73 (PG_S hG p73 hS2) hV ho _) ?_
      refine z_aload_n dX9_stands_67 rfl ?_
      refine y_getR dX9_stands_68 lf_X9_57 rfl rfl ?_
      refine z_iload dX9_stands_71 rfl ?_
      refine y_ialde dX9_stands_73 rfl (by decide) (by omega) ((congrFun (hS2 80 (by decide)) i).trans (hE.2 i (by omega)).2.2) ?_
      refine zn_icmp_ne (tgt := 81) dX9_stands_74 (by decide) (by omega) (by have := hv.2.2; omega) (fun hc74 => ?_) (fun hc74 => ?_)
      · refine z_iconst (v := nI 0) dX9_stands_81 rfl ?_
        refine z_istore3 dX9_stands_82 rfl ?_
        refine zn_iinc4 dX9_stands_83 rfl ?_
        refine z_goto (tgt := 27) dX9_stands_86 (by decide) ?_
        have e : sfK (sfF A c) (i + 1) = false := by rw [sfK_s]; simp [sfF, hc74]
        have k := ih (i + 1) mu2 (by omega) hSS
        rw [e] at k; exact k
      · refine z_iconst (v := nI 1) dX9_stands_77 rfl ?_
        refine z_goto (tgt := 82) dX9_stands_78 (by decide) ?_
        refine z_istore3 dX9_stands_82 rfl ?_
        refine zn_iinc4 dX9_stands_83 rfl ?_
        refine z_goto (tgt := 27) dX9_stands_86 (by decide) ?_
        have e : sfK (sfF A c) (i + 1) = true := by rw [sfK_s, hc37]; simp [sfF, hc74]
        have k := ih (i + 1) mu2 (by omega) hSS
        rw [e] at k; exact k
set_option maxRecDepth 4000 in
theorem r_stands_l {X : zX} {mu : zmu} {nu : znu} {A : AS} (hA : AV A) (hC : MR A mu nu) (d : Nat) : ∀ n i mu1, i + n = pw (aP A) * ph (aP A) → S81 mu mu1 → zJ X M_X9_stands (d + 10) 0 0 9 [.ref 66, .int (nI (bset (sof (aP A) (aN A).2 (aS A).2.1 (aS A).2.2.1 (aS A).2.2.2 (aS A).1) i)), .int (nI i), zu, zu] [] 86 (zEE (mu1) (nu)) (zlift (QM (f_stands A) mu nu)) := by
  intro n
  induction n with
  | zero =>
    intro i mu1 hi
    have hp := hA.1
    have hV := hA.2.1
    have h20 : pw (aP A) * ph (aP A) ≤ 20 := hA.n
    have h5 := hA.b
    intro hS
    obtain ⟨hM, hG, hB, hKe, hE, hT, hD⟩ := MR_s hC (Sm_S hS)
    obtain rfl : i = pw (aP A) * ph (aP A) := by omega
    refine z_iload_n dX9_stands_9 rfl ?_
    refine z_aload_n dX9_stands_10 rfl ?_
    refine y_getIe dX9_stands_11 lf_X9_13 rfl rfl hM.1 ?_
    refine z_aload_n dX9_stands_14 rfl ?_
    refine y_getIe dX9_stands_15 lf_X9_17 rfl rfl hM.2.1 ?_
    refine zn_imul dX9_stands_18 ?_
    refine zn_icmp_ge (tgt := 109) dX9_stands_19 (by decide) (by omega) (by omega) (fun hc19 => ?_) (fun hc19 => by omega)
    refine z_iload_n dX9_stands_109 rfl ?_
    exact y_ireturn dX9_stands_110 rfl (QM_m hC (Sm_S hS) rfl)
  | succ n ih =>
    intro i mu1 hi
    have hp := hA.1
    have hV := hA.2.1
    have h20 : pw (aP A) * ph (aP A) ≤ 20 := hA.n
    have h5 := hA.b
    intro hS
    have hC1 := MR_s hC (Sm_S hS)
    obtain ⟨hM, hG, hB, hKe, hE, hT, hD⟩ := id hC1
    refine z_iload_n dX9_stands_9 rfl ?_
    refine z_aload_n dX9_stands_10 rfl ?_
    refine y_getIe dX9_stands_11 lf_X9_13 rfl rfl hM.1 ?_
    refine z_aload_n dX9_stands_14 rfl ?_
    refine y_getIe dX9_stands_15 lf_X9_17 rfl rfl hM.2.1 ?_
    refine zn_imul dX9_stands_18 ?_
    refine zn_icmp_ge (tgt := 109) dX9_stands_19 (by decide) (by omega) (by omega) (fun hc19 => by omega) (fun hc19 => ?_)
    refine z_iconst (v := nI 1) dX9_stands_22 rfl ?_
    refine z_istore3 dX9_stands_23 rfl ?_
    refine z_iconst (v := nI 0) dX9_stands_24 rfl ?_
    refine z_istore4 dX9_stands_25 rfl ?_
    refine r_standsIn hA hC1 (c := i) (bb := bset (sof (aP A) (aN A).2 (aS A).2.1 (aS A).2.2.1 (aS A).2.2.2 (aS A).1) i) (by omega) d (fun mu9 hS9 => ?_) (aS A).1 0 mu1 (by omega) S81_rf
    rw [← sof_K]
    refine z_iload_n dX9_stands_89 rfl ?_
    refine z_iload_n dX9_stands_90 rfl ?_
    refine zb_if_eq (tgt := 100) dX9_stands_91 (by decide) (fun hc91 => ?_) (fun hc91 => ?_)
    · refine z_iconst (v := nI 0) dX9_stands_100 rfl ?_
      refine zn_ior dX9_stands_101 ?_
      refine z_istore1 dX9_stands_102 rfl ?_
      refine zn_iinc2 dX9_stands_103 rfl ?_
      refine z_goto (tgt := 9) dX9_stands_106 (by decide) ?_
      rw [Nat.or_zero, bset_f hc91]; exact z_sub (ih (i + 1) mu9 (by omega) (S81_tr hS hS9)) ⟨Or.inr rfl, Or.inr rfl, Or.inr rfl, Or.inl rfl, Or.inl rfl, trivial⟩
    · refine z_iconst (v := nI 1) dX9_stands_94 rfl ?_
      refine z_iload_n dX9_stands_95 rfl ?_
      refine zn_ishl dX9_stands_96 (by omega) (by have : 1 * 2 ^ i ≤ 1 * 2 ^ 20 := Nat.mul_le_mul_left 1 (Nat.pow_le_pow_right (by decide) (by omega)); omega) ?_
      refine z_goto (tgt := 101) dX9_stands_97 (by decide) ?_
      refine zn_ior dX9_stands_101 ?_
      refine z_istore1 dX9_stands_102 rfl ?_
      refine zn_iinc2 dX9_stands_103 rfl ?_
      refine z_goto (tgt := 9) dX9_stands_106 (by decide) ?_
      rw [bset_t hc91]; exact z_sub (ih (i + 1) mu9 (by omega) (S81_tr hS hS9)) ⟨Or.inr rfl, Or.inr rfl, Or.inr rfl, Or.inl rfl, Or.inl rfl, trivial⟩
set_option maxRecDepth 4000 in
theorem r_stands {X : zX} {mu : zmu} {nu : znu} {A : AS} (hA : AV A) (hC : MR A mu nu) (d : Nat) : zJ X M_X9_stands (d + 10) 0 0 0 [.ref 66, zu, zu, zu, zu] [] 86 (zEE (mu) (nu)) (zlift (QM (f_stands A) mu nu)) := by
  have hp := hA.1
  have hV := hA.2.1
  have h20 : pw (aP A) * ph (aP A) ≤ 20 := hA.n
  have h5 := hA.b
  refine z_aload_n dX9_stands_0 rfl ?_
  refine z_iconst (v := nI 0) dX9_stands_1 rfl ?_
  refine y_putI dX9_stands_2 lp_X9_75 rfl rfl ?_
  refine zJ_mono (Q := QM (f_stands A) (u2 mu 66 0 (nI 0)) nu) ?_ QM_th
  replace hC := MR_m hC (Sm_th (mu := mu) (v := nI 0)) rfl
  generalize u2 mu 66 0 (nI 0) = mu at hC ⊢
  obtain ⟨hM, hG, hB, hKe, hE, hT, hD⟩ := id hC
  refine z_iconst (v := nI 0) dX9_stands_5 rfl ?_
  refine z_istore1 dX9_stands_6 rfl ?_
  refine z_iconst (v := nI 0) dX9_stands_7 rfl ?_
  refine z_istore2 dX9_stands_8 rfl ?_
  exact r_stands_l hA hC d (pw (aP A) * ph (aP A)) 0 mu (by omega) S81_rf
theorem MR_see {A : AS} {mu mu1 : zmu} {nu : znu} {g : SG} (h : MR A mu nu) (hs : SM g mu1) (e : ∀ a, a ≠ 66 → a < 78 ∨ 80 < a → mu1 a = mu a) (e2 : ∀ j, j ≠ 23 → mu1 66 j = mu 66 j) : MR (setS A g) mu1 nu ∧ FrM mu nu mu1 nu := by
  obtain ⟨h1, h2, h3, h4, h5, h6, h7⟩ := h
  refine ⟨⟨?_, PG_e h2 (e 73 (by decide) (by decide)), BK_e h3 (e2 20 (by decide)) (e 75 (by decide) (by decide)), KM_e h4 (e 76 (by decide) (by decide)) (e 77 (by decide) (by decide)), hs, TM_e h6 (e2 2 (by decide)) (e 67 (by decide) (by decide)), h7⟩, fun a ha => e a (by omega) (by omega), rfl⟩
  show PM (aP A) mu1
  unfold PM at *
  rw [e2 4 (by decide), e2 5 (by decide), e2 6 (by decide), e2 8 (by decide), e 68 (by decide) (by decide), e 69 (by decide) (by decide), e 70 (by decide) (by decide)]
  exact h1
def smM (mu : zmu) (k : Nat) (x y z : Int32) : zmu := u2 (u2 (u2 (u2 mu 78 k x) 79 k y) 80 k z) 66 23 (nI (k + 1))
theorem SM_see {g : SG} {mu : zmu} {x y : Int32} {k : Nat} (h : SM g mu) (hx : in9 x = true) (hy : in9 y = true) (hk : k < 4) : SM (seeS g x y (nI k)) (smM mu g.1 x y (nI k)) := by
  refine ⟨by unfold smM; rw [u2_s]; rfl, fun i hi => ?_⟩
  have hi : i < g.1 + 1 := hi
  have e1 := (iS_ok (of_decide_eq_true hx)).1
  have e2 := (iS_ok (of_decide_eq_true hy)).1
  show smM mu g.1 x y (nI k) 78 i = sI (if i = g.1 then iS x else g.2.1 i) ∧ smM mu g.1 x y (nI k) 79 i = sI (if i = g.1 then iS y else g.2.2.1 i) ∧ smM mu g.1 x y (nI k) 80 i = nI (if i = g.1 then ix (nI k) else g.2.2.2 i)
  have f3 : smM mu g.1 x y (nI k) 78 i = u2 mu 78 g.1 x 78 i := by unfold smM; rw [u2_a (by decide), u2_a (by decide), u2_a (by decide)]
  have f4 : smM mu g.1 x y (nI k) 79 i = u2 mu 79 g.1 y 79 i := by unfold smM; rw [u2_a (by decide), u2_a (by decide)]; unfold u2; simp
  have f5 : smM mu g.1 x y (nI k) 80 i = u2 mu 80 g.1 (nI k) 80 i := by unfold smM; rw [u2_a (by decide)]; unfold u2; simp
  rw [f3, f4, f5, ix_nI (by omega)]
  by_cases hg : i = g.1
  · rw [if_pos hg, if_pos hg, if_pos hg, hg, u2_s, u2_s, u2_s, e1, e2]; exact ⟨rfl, rfl, rfl⟩
  · rw [if_neg hg, if_neg hg, if_neg hg, u2_k hg, u2_k hg, u2_k hg]; exact h.2 i (by omega)
set_option maxRecDepth 4000 in
theorem r_see {X : zX} {mu : zmu} {nu : znu} {A : AS} (hA : AV A) (hC : MR A mu nu) (x y k : Int32) (d : Nat) : zJ X M_X9_see (d + 10) 0 0 0 [.ref 66, .int x, .int y, .int k] [] 86 (zEE (mu) (nu)) (zlift (QM (f_see A x y k) mu nu)) := by
  have hp := hA.1
  have hV := hA.2.1
  have h20 : pw (aP A) * ph (aP A) ≤ 20 := hA.n
  have h5 := hA.b
  have h6 := hA.2.2.2.2.1.1
  refine z_aload_n dX9_see_0 rfl ?_
  refine z_iconst (v := nI 0) dX9_see_1 rfl ?_
  refine y_putI dX9_see_2 lp_X9_75 rfl rfl ?_
  refine zJ_mono (Q := QM (f_see A x y k) (u2 mu 66 0 (nI 0)) nu) ?_ QM_th
  replace hC := MR_m hC (Sm_th (mu := mu) (v := nI 0)) rfl
  generalize u2 mu 66 0 (nI 0) = mu at hC ⊢
  obtain ⟨hM, hG, hB, hKe, hE, hT, hD⟩ := id hC
  refine z_iload_n dX9_see_5 rfl ?_
  refine z_i2l dX9_see_6 ?_
  refine z_ldc2 (v := -4) dX9_see_7 lk_X9_263 ?_
  refine z_ldc2 (v := nL 4) dX9_see_10 lk_X9_240 ?_
  refine y_callS3x (M' := M_X9_in) dX9_see_13 lm_X9_81 cs_X9_in (Nat.le_of_ble_eq_true rfl) (Nat.le_of_ble_eq_true rfl) rfl (m_in _ _ _ _) ?_
  rw [in_9]
  refine zb_if_eq (tgt := 45) dX9_see_16 (by decide) (fun hc16 => ?_) (fun hc16 => ?_)
  · have g : okS x y k = false := by simp [okS, hc16]
    refine z_bipush (v := -2) dX9_see_45 rfl ?_
    exact y_ireturn dX9_see_47 rfl (QM_rf hC (by simp [f_see, g]))
  · refine z_iload_n dX9_see_19 rfl ?_
    refine z_i2l dX9_see_20 ?_
    refine z_ldc2 (v := -4) dX9_see_21 lk_X9_263 ?_
    refine z_ldc2 (v := nL 4) dX9_see_24 lk_X9_240 ?_
    refine y_callS3x (M' := M_X9_in) dX9_see_27 lm_X9_81 cs_X9_in (Nat.le_of_ble_eq_true rfl) (Nat.le_of_ble_eq_true rfl) rfl (m_in _ _ _ _) ?_
    rw [in_9]
    refine zb_if_eq (tgt := 45) dX9_see_30 (by decide) (fun hc30 => ?_) (fun hc30 => ?_)
    · have g : okS x y k = false := by simp [okS, hc30]
      refine z_bipush (v := -2) dX9_see_45 rfl ?_
      exact y_ireturn dX9_see_47 rfl (QM_rf hC (by simp [f_see, g]))
    · refine z_iload_n dX9_see_33 rfl ?_
      refine z_i2l dX9_see_34 ?_
      refine z_lconst (v := 0) dX9_see_35 rfl ?_
      refine z_ldc2 (v := nL 3) dX9_see_36 lk_X9_85 ?_
      refine y_callS3x (M' := M_X9_in) dX9_see_39 lm_X9_81 cs_X9_in (Nat.le_of_ble_eq_true rfl) (Nat.le_of_ble_eq_true rfl) rfl (m_in _ _ _ _) ?_
      rw [in_c (m := 3) (by decide)]
      refine zb_if_ne (tgt := 48) dX9_see_42 (by decide) (fun hc42 => ?_) (fun hc42 => ?_)
      · have g3 : inr k 4 = true := hc42
        have g : okS x y k = true := by simp [okS, hc16, hc30, g3]
        obtain ⟨t, ht, rfl⟩ := inr_t g3 (by decide)
        refine z_aload_n dX9_see_48 rfl ?_
        refine y_getIe dX9_see_49 lf_X9_177 rfl rfl hE.1 ?_
        refine z_bipush (v := nI 6) dX9_see_52 rfl ?_
        refine zn_icmp_ne (tgt := 60) dX9_see_54 (by decide) (by omega) (by omega) (fun hc54 => ?_) (fun hc54 => ?_)
        · have hl : (aS A).1 < 6 := by omega
          refine z_aload_n dX9_see_60 rfl ?_
          refine y_getR dX9_see_61 lf_X9_51 rfl rfl ?_
          refine z_aload_n dX9_see_64 rfl ?_
          refine y_getIe dX9_see_65 lf_X9_177 rfl rfl hE.1 ?_
          refine z_iload_n dX9_see_68 rfl ?_
          refine y_iast dX9_see_69 rfl (by decide) (by omega) ?_
          refine z_aload_n dX9_see_70 rfl ?_
          refine y_getR dX9_see_71 lf_X9_54 rfl rfl ?_
          refine z_aload_n dX9_see_74 rfl ?_
          refine y_getIe dX9_see_75 lf_X9_177 rfl rfl ((u2_a (by decide)).trans hE.1) ?_
          refine z_iload_n dX9_see_78 rfl ?_
          refine y_iast dX9_see_79 rfl (by decide) (by omega) ?_
          refine z_aload_n dX9_see_80 rfl ?_
          refine y_getR dX9_see_81 lf_X9_57 rfl rfl ?_
          refine z_aload_n dX9_see_84 rfl ?_
          refine y_getIe dX9_see_85 lf_X9_177 rfl rfl ((u2_a (by decide)).trans ((u2_a (by decide)).trans hE.1)) ?_
          refine z_iload_n dX9_see_88 rfl ?_
          refine y_iast dX9_see_89 rfl (by decide) (by omega) ?_
          refine z_aload_n dX9_see_90 rfl ?_
          refine z_dup dX9_see_91 rfl ?_
          refine y_getIe dX9_see_92 lf_X9_177 rfl rfl ((u2_a (by decide)).trans ((u2_a (by decide)).trans ((u2_a (by decide)).trans hE.1))) ?_
          refine z_iconst (v := nI 1) dX9_see_95 rfl ?_
          refine zn_iadd dX9_see_96 ?_
          refine y_putI dX9_see_97 lp_X9_177 rfl rfl ?_
          refine z_aload_n dX9_see_100 rfl ?_
          refine y_getIe dX9_see_101 lf_X9_177 rfl rfl u2_s ?_
          exact y_ireturn dX9_see_104 rfl (by have hr := MR_see (mu1 := smM mu (aS A).1 x y (nI t)) (g := seeS (aS A) x y (nI t)) hC (SM_see hE hc16 hc30 ht) (fun a h1 h2 => by unfold smM; rw [u2_rowa h1, u2_rowa (by omega), u2_rowa (by omega), u2_rowa (by omega)]) (fun j hj => by unfold smM; rw [u2_k hj, u2_a (by decide), u2_a (by decide), u2_a (by decide)]); exact QM_of (by simp [f_see, g, hl]) hr.1 hr.2)
        · have hl : ¬ (aS A).1 < 6 := by omega
          refine z_bipush (v := -4) dX9_see_57 rfl ?_
          exact y_ireturn dX9_see_59 rfl (QM_rf hC (by simp [f_see, g, hl]))
      · have g3 : inr k 4 = false := hc42
        have g : okS x y k = false := by simp [okS, g3]
        refine z_bipush (v := -2) dX9_see_45 rfl ?_
        exact y_ireturn dX9_see_47 rfl (QM_rf hC (by simp [f_see, g]))
set_option maxRecDepth 4000 in
theorem r_unsee {X : zX} {mu : zmu} {nu : znu} {A : AS} (hA : AV A) (hC : MR A mu nu) (d : Nat) : zJ X M_X9_unsee (d + 10) 0 0 0 [.ref 66, zu] [] 86 (zEE (mu) (nu)) (zlift (QM (f_unsee A) mu nu)) := by
  refine z_aload_n dX9_unsee_0 rfl ?_
  refine z_iconst (v := nI 0) dX9_unsee_1 rfl ?_
  refine y_putI dX9_unsee_2 lp_X9_75 rfl rfl ?_
  refine zJ_mono (Q := QM (f_unsee A) (u2 mu 66 0 (nI 0)) nu) ?_ QM_th
  replace hC := MR_m hC (Sm_th (mu := mu) (v := nI 0)) rfl
  generalize u2 mu 66 0 (nI 0) = mu at hC ⊢
  obtain ⟨hM, hG, hB, hKe, hE, hT, hD⟩ := id hC
  refine z_aload_n dX9_unsee_5 rfl ?_
  refine y_getIe dX9_unsee_6 lf_X9_177 rfl rfl hE.1 ?_
  refine z_istore1 dX9_unsee_9 rfl ?_
  refine z_aload_n dX9_unsee_10 rfl ?_
  refine z_iconst (v := nI 0) dX9_unsee_11 rfl ?_
  refine y_putI dX9_unsee_12 lp_X9_177 rfl rfl ?_
  refine z_iload_n dX9_unsee_15 rfl ?_
  exact y_ireturn dX9_unsee_16 rfl (by have hr := MR_see (mu1 := u2 mu 66 23 (nI 0)) (g := (0, (aS A).2)) hC ⟨u2_s, fun i hi => absurd hi (Nat.not_lt_zero _)⟩ (fun a h1 h2 => u2_rowa h1) (fun j hj => u2_k hj); exact QM_of rfl hr.1 hr.2)
