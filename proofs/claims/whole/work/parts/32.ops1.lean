def ix (x : Int32) : Nat := x.toNatClampNeg
theorem ix_nI {b : Nat} (h : b < 2 ^ 31) : ix (nI b) = b := nI_clamp h
/-- what a call of the class comes to -/
def QC (f : Int32 × AS) (mu : zmu) (nu : znu) : zq := fun r mu1 nu1 => r = some (.int f.1) ∧ CR f.2 mu1 nu1 ∧ FrC mu nu mu1 nu1
theorem QC_of {f : Int32 × AS} {A' : AS} {v : Int32} {mu mu1 : zmu} {nu nu1 : znu} (e : f = (v, A')) (h : CR A' mu1 nu1) (g : FrC mu nu mu1 nu1) : QC f mu nu (some (.int v)) mu1 nu1 := by subst e; exact ⟨rfl, h, g⟩
theorem QC_rf {f : Int32 × AS} {A : AS} {v : Int32} {mu : zmu} {nu : znu} (h : CR A mu nu) (e : f = (v, A)) : QC f mu nu (some (.int v)) mu nu := QC_of e h FrC_rf
def aw (A : AS) : Nat := pw (aP A)
def an (A : AS) : Nat := pw (aP A) * ph (aP A)
theorem AV.n {A : AS} (h : AV A) : an A ≤ 20 := h.1.n20
theorem AV.b {A : AS} (h : AV A) : pb (aP A) ≤ 5 := h.1.2.2.2.2.2.1
def f_write (A : AS) (x : Int32) : Int32 × AS := if inr x 256 = true then (if (aT A).1 < 48 then (nI ((aT A).1 + 1), setT A ((aT A).1 + 1, fun i => if i = (aT A).1 then ix x else (aT A).2 i)) else (-4, A)) else (-2, A)
def f_wipe (A : AS) : Int32 × AS := (nI (aT A).1, setT A (0, (aT A).2))
def f_fault (A : AS) : Int32 × AS := (flt (aT A).2 (aT A).1, A)
def newP (A : AS) (p : PT) : AS := (p, ((fun b => 480 + pH p b), 0), (0, (aA A).2), (fun _ => none), aS A, aT A, aD A)
def f_paper (A : AS) : Int32 × AS := if flt (aT A).2 (aT A).1 = -9 then (nI (100 * pw (patOf (aT A).2 (aT A).1) + 10 * ph (patOf (aT A).2 (aT A).1) + pb (patOf (aT A).2 (aT A).1)), newP A (patOf (aT A).2 (aT A).1)) else (-3, A)
def abt (A : AS) (k : Nat) : Int32 := if k = 0 then nI (pw (aP A)) else if k = 1 then nI (ph (aP A)) else if k = 2 then nI (pd (aP A)) else if k = 3 then nI (pb (aP A)) else if k = 4 then nI (bset (ckf (aP A) (aN A).2 1) (an A)) else if k = 5 then nI (bset (ckf (aP A) (aN A).2 2) (an A)) else if k = 6 then nI (bset (ckf (aP A) (aN A).2 3) (an A)) else if k = 7 then nI (bset (hmf (aP A) (aN A).1) (pb (aP A))) else if k = 8 then nI (aA A).1 else if k = 9 then nI (aS A).1 else nI (aT A).1
def f_about (A : AS) (x : Int32) : Int32 × AS := (if inr x 11 = true then abt A (ix x) else -2, A)
def f_cell (A : AS) (x : Int32) : Int32 × AS := (if inr x (an A) = true then nI (kdk (pK (aP A)) (aN A).2 (ix x)) else -1, A)
def f_beside (A : AS) (x y : Int32) (s : Bool) : Int32 × AS := (if inr x (an A) = true then (if inr y 4 = true then nI (nbc (pw (aP A)) (ph (aP A)) (if s = true then 0 else pd (aP A)) (ix x) (ix y)) else -2) else -1, A)
def byt (A : AS) (b k : Nat) : Int32 := if k = 0 then nI ((aN A).1 b % 20) else if k = 1 then nI (pX (aP A) b) else if k = 2 then nI (pH (aP A) b) else if k = 3 then nI ((aN A).1 b / 20 % 7) else if k = 4 then nI ((aN A).1 b / 140) else nI (bset (wof (aP A) (aN A).2 b ((aN A).1 b)) 4)
def f_boy (A : AS) (x k : Int32) : Int32 × AS := (if inr x (pb (aP A)) = true then (if inr k 6 = true then byt A (ix x) (ix k) else -2) else -1, A)
def pshN (A : AS) (s : SC) : AS := setN (setA A (pushA (aA A) (aN A))) s
def f_step (A : AS) (x y : Int32) : Int32 × AS := if inr x (pb (aP A)) = true then (if inr y 4 = true then (match pon (aP A) (aN A).2 (ix x) ((aN A).1 (ix x)) (ix y) with
    | none => (-3, A)
    | some q => (nI (q % 20), pshN A (goS (aP A) (aN A) (ix x) (ix y)))) else (-2, A)) else (-1, A)
def f_call (A : AS) (x : Int32) : Int32 × AS := if inr x (an A) = true then (nI (bcnt (brf (aP A) (aN A).1 (ix x)) (pb (aP A))), pshN A (brS' (aP A) (aN A) (ix x))) else (-1, A)
def f_cut (A : AS) (x : Int32) : Int32 × AS := if inr x (an A) = true then (if kdk (pK (aP A)) (aN A).2 (ix x) = 1 then (nI (bcnt (ckf (aP A) (cuS (aN A) (ix x)).2 1) (an A)), pshN A (cuS (aN A) (ix x))) else (-3, A)) else (-1, A)
def f_undo (A : AS) : Int32 × AS := if (aA A).1 = 0 then (-3, A) else (nI ((aA A).1 - 1), popA A)
set_option maxRecDepth 4000 in
theorem k_write {X : zX} {mu : zmu} {nu : znu} {A : AS} (hA : AV A) (hC : CR A mu nu) (x : Int32) (d : Nat) : zJ X M_X8_write (d + 10) 0 0 0 [.ref 0, .int x] [] 86 (zEE (mu) (nu)) (zlift (QC (f_write A x) mu nu)) := by
  obtain ⟨hP, hS, hR, hK, hE, hT, hSR, hD⟩ := id hC
  have hp := hA.1
  have hV := hA.2.1
  have h20 := hA.n
  have h5 := hA.b
  refine z_iload_n dX8_write_0 rfl ?_
  refine z_if_lt (tgt := 11) dX8_write_1 (by decide) (fun hc1 => ?_) (fun hc1 => ?_)
  · refine z_bipush (v := -2) dX8_write_11 rfl ?_
    exact y_ireturn dX8_write_13 rfl (by have g : inr x 256 = false := decide_eq_false (fun e => absurd hc1 (Int32.not_lt.mpr e.1)); exact (QC_rf hC (by simp [f_write, g])))
  · refine z_iload_n dX8_write_4 rfl ?_
    refine z_sipush (v := nI 255) dX8_write_5 rfl ?_
    refine z_icmp_le (tgt := 14) dX8_write_8 (by decide) (fun hc8 => ?_) (fun hc8 => ?_)
    · have g : inr x 256 = true := decide_eq_true ⟨Int32.not_lt.mp hc1, by rw [Int32.le_iff_toInt_le] at hc8; rw [Int32.lt_iff_toInt_lt]; have e1 : (nI 256).toInt = 256 := (by decide); have e2 : (nI 255).toInt = 255 := (by decide); omega⟩
      obtain ⟨t, ht, rfl⟩ := inr_t g (by decide)
      refine z_aload_n dX8_write_14 rfl ?_
      refine y_getR dX8_write_15 lf_X8_12 rfl rfl ?_
      refine z_iload_n dX8_write_18 rfl ?_
      refine y_callV1x (M' := M_X7_add) dX8_write_19 lm_X8_81 cv_X7_add rfl (Nat.le_of_ble_eq_true rfl) (Nat.le_of_ble_eq_true rfl) rfl (c_add hT (t := t) _) ?_
      refine zb_if_eq (tgt := 35) dX8_write_22 (by decide) (fun hc22 => ?_) (fun hc22 => ?_)
      · have hl : ¬ (aT A).1 < 48 := of_decide_eq_false hc22
        rw [if_neg hl]
        refine z_bipush (v := -4) dX8_write_35 rfl ?_
        exact y_ireturn dX8_write_37 rfl (QC_rf hC (by simp [f_write, g, hl]))
      · have hl : (aT A).1 < 48 := of_decide_eq_true hc22
        rw [if_pos hl]
        refine z_aload_n dX8_write_25 rfl ?_
        refine y_getR dX8_write_26 lf_X8_12 rfl rfl ?_
        refine y_getIe dX8_write_29 lf_X8_85 rfl rfl u2_s ?_
        refine z_goto (tgt := 37) dX8_write_32 (by decide) ?_
        exact y_ireturn dX8_write_37 rfl (by
                have e : ∀ z, z ≠ 1 → z ≠ 2 → u2 (u2 mu 2 (aT A).1 (nI t)) 1 1 (nI ((aT A).1 + 1)) z = mu z := fun z h1 h2 => by rw [u2_rowa h1, u2_rowa h2]
                refine QC_of (A' := setT A ((aT A).1 + 1, fun i => if i = (aT A).1 then ix (nI t) else (aT A).2 i)) (by simp [f_write, g, hl]) ?_ ?_
                · refine ⟨PFc_eq hP (fun z h1 h2 => e z (by omega) (by omega)), SFc_eq hS (e 10 (by decide) (by decide)) (e 11 (by decide) (by decide)), RG_eq hR (fun z h1 h2 => e z (by omega) (by omega)), KP_eq hK (fun z h1 => e z (by omega) (by omega)), SEc_eq hE (fun z h1 h2 => e z (by omega) (by omega)), ⟨u2_s, by show (aT A).1 + 1 ≤ 48; omega, fun i hi => ?_⟩, SRH_eq hSR (fun z h1 h2 => e z (by omega) (by omega)), hD⟩
                  show u2 (u2 mu 2 (aT A).1 (nI t)) 1 1 (nI ((aT A).1 + 1)) 2 i = nI (if i = (aT A).1 then ix (nI t) else (aT A).2 i) ∧ (if i = (aT A).1 then ix (nI t) else (aT A).2 i) < 256
                  rw [u2_a (by decide), ix_nI (by omega)]
                  by_cases hi2 : i = (aT A).1
                  · rw [hi2, u2_s, if_pos rfl]; exact ⟨rfl, ht⟩
                  · rw [u2_k hi2, if_neg hi2]; exact hT.2.2 i hi
                · exact ⟨fun z hz => by rw [u2_rowa (by omega), u2_rowa (by omega)], rfl⟩)
    · refine z_bipush (v := -2) dX8_write_11 rfl ?_
      exact y_ireturn dX8_write_13 rfl (by have g : inr x 256 = false := decide_eq_false (fun e => hc8 (by have := e.2; rw [Int32.lt_iff_toInt_lt] at this; rw [Int32.le_iff_toInt_le]; have e1 : (nI 256).toInt = 256 := (by decide); have e2 : (nI 255).toInt = 255 := (by decide); omega)); exact (QC_rf hC (by simp [f_write, g])))
set_option maxRecDepth 4000 in
theorem k_wipe {X : zX} {mu : zmu} {nu : znu} {A : AS} (hA : AV A) (hC : CR A mu nu) (d : Nat) : zJ X M_X8_wipe (d + 10) 0 0 0 [.ref 0, zu] [] 86 (zEE (mu) (nu)) (zlift (QC (f_wipe A) mu nu)) := by
  obtain ⟨hP, hS, hR, hK, hE, hT, hSR, hD⟩ := id hC
  have hp := hA.1
  have hV := hA.2.1
  have h20 := hA.n
  have h5 := hA.b
  refine z_aload_n dX8_wipe_0 rfl ?_
  refine y_getR dX8_wipe_1 lf_X8_12 rfl rfl ?_
  refine y_getIe dX8_wipe_4 lf_X8_85 rfl rfl hT.1 ?_
  refine z_istore1 dX8_wipe_7 rfl ?_
  refine z_aload_n dX8_wipe_8 rfl ?_
  refine y_getR dX8_wipe_9 lf_X8_12 rfl rfl ?_
  refine z_iconst (v := nI 0) dX8_wipe_12 rfl ?_
  refine y_putI dX8_wipe_13 lp_X8_85 rfl rfl ?_
  refine z_iload_n dX8_wipe_16 rfl ?_
  exact y_ireturn dX8_wipe_17 rfl ⟨rfl, ⟨PFc_eq hP (fun z h1 h2 => u2_rowa (by omega)), SFc_eq hS (u2_rowa (by decide)) (u2_rowa (by decide)), RG_eq hR (fun z h1 h2 => u2_rowa (by omega)), KP_eq hK (fun z h1 => u2_rowa (by omega)), SEc_eq hE (fun z h1 h2 => u2_rowa (by omega)), ⟨u2_s, Nat.zero_le _, fun i hi => by rw [u2_a (by decide)]; exact hT.2.2 i hi⟩, SRH_eq hSR (fun z h1 h2 => u2_rowa (by omega)), hD⟩, ⟨fun z hz => u2_rowa (by omega), rfl⟩⟩
set_option maxRecDepth 4000 in
theorem k_fault {X : zX} {mu : zmu} {nu : znu} {A : AS} (hA : AV A) (hC : CR A mu nu) (d : Nat) : zJ X M_X8_fault (d + 10) 0 0 0 [.ref 0] [] 86 (zEE (mu) (nu)) (zlift (QC (f_fault A) mu nu)) := by
  obtain ⟨hP, hS, hR, hK, hE, hT, hSR, hD⟩ := id hC
  have hp := hA.1
  have hV := hA.2.1
  have h20 := hA.n
  have h5 := hA.b
  refine z_aload_n dX8_fault_0 rfl ?_
  refine y_getR dX8_fault_1 lf_X8_12 rfl rfl ?_
  refine y_callV0x (M' := M_X7_firstFault) dX8_fault_4 lm_X8_89 cv_X7_firstFault rfl (Nat.le_of_ble_eq_true rfl) (Nat.le_of_ble_eq_true rfl) rfl (c_firstFault hT _) ?_
  exact y_ireturn dX8_fault_7 rfl ⟨rfl, hC, FrC_rf⟩
theorem flt_pap {T : Nat → Nat} {len : Nat} (hl : len ≤ 48) : flt T len = -9 ↔ Pap T len := by
  unfold flt Pap
  cases h : (List.range len).find? (fun i => !fitc T i) with
  | some i =>
    rw [List.find?_range_eq_some] at h
    simp only
    constructor
    · intro e; exact absurd e (nI_m9 (by have := List.mem_range.mp h.2.1; omega))
    · rintro ⟨g, -⟩
      have := h.1
      rw [g i (List.mem_range.mp h.2.1)] at this
      exact absurd this (by decide)
  | none =>
    rw [List.find?_range_eq_none] at h
    simp only
    have hf : ∀ j, j < len → fitc T j = true := fun j hj => by have := h j hj; simpa using this
    by_cases hw : whl T len = true
    · rw [if_pos hw]; exact ⟨fun _ => ⟨hf, hw⟩, fun _ => rfl⟩
    · rw [if_neg hw]; exact ⟨fun e => absurd e (nI_m9 (by omega)), fun g => absurd g.2 hw⟩
theorem SFs_beg {p : PT} {mu : zmu} (hp : PV p) : SFs p ((fun b => 480 + pH p b), 0) 10 (uR (u2 mu 10 2 0) 11 (bgr p (mu 11) (pb p))) := by
  refine ⟨fun b hb => ?_, by rw [uR_a (by decide), u2_s]; rfl⟩
  rw [uR_s]; unfold bgr; rw [if_pos hb]
def papM (A : AS) (mu : zmu) : zmu := u2 (uR (u2 (rdM (aT A).2 (aT A).1 mu) 10 2 0) 11 (bgr (patOf (aT A).2 (aT A).1) (rdM (aT A).2 (aT A).1 mu 11) (pb (patOf (aT A).2 (aT A).1)))) 14 2 (nI 0)
theorem papM_o (A : AS) (mu : zmu) (x : Nat) (h : x = 1 ∨ x = 2 ∨ 15 ≤ x) : papM A mu x = mu x := by
  unfold papM; rw [u2_rowa (by omega), uR_a (by omega), u2_rowa (by omega)]; unfold rdM; rw [rd3_o (by omega) (by omega), rd2_o (by omega), rd1_o (by omega) (by omega) (by omega) (by omega)]
theorem papM_n (A : AS) (mu : zmu) : papM A mu 14 1 = mu 14 1 := by
  unfold papM; rw [u2_k (by decide), uR_a (by decide), u2_rowa (by decide)]; unfold rdM; rw [rd3_o (by decide) (by decide), rd2_o (by decide), rd1_o (by decide) (by decide) (by decide) (by decide)]
set_option maxRecDepth 4000 in
theorem k_paper {X : zX} {mu : zmu} {nu : znu} {A : AS} (hA : AV A) (hC : CR A mu nu) (d : Nat) : zJ X M_X8_paper (d + 10) 0 0 0 [.ref 0, zu] [] 86 (zEE (mu) (nu)) (zlift (QC (f_paper A) mu nu)) := by
  obtain ⟨hP, hS, hR, hK, hE, hT, hSR, hD⟩ := id hC
  have hp := hA.1
  have hV := hA.2.1
  have h20 := hA.n
  have h5 := hA.b
  refine z_aload_n dX8_paper_0 rfl ?_
  refine y_getR dX8_paper_1 lf_X8_12 rfl rfl ?_
  refine y_callV0x (M' := M_X7_firstFault) dX8_paper_4 lm_X8_89 cv_X7_firstFault rfl (Nat.le_of_ble_eq_true rfl) (Nat.le_of_ble_eq_true rfl) rfl (c_firstFault hT _) ?_
  refine z_bipush (v := -9) dX8_paper_7 rfl ?_
  refine z_icmp_eq (tgt := 15) dX8_paper_9 (by decide) (fun hc9 => ?_) (fun hc9 => ?_)
  · have hpp : Pap (aT A).2 (aT A).1 := (flt_pap hA.2.2.2.2.2.1).mp hc9
    have hpv := patOf_V hpp
    have hPP := rdM_P (mu := mu) hpp
    refine z_aload_n dX8_paper_15 rfl ?_
    refine y_getR dX8_paper_16 lf_X8_19 rfl rfl ?_
    refine z_aload_n dX8_paper_19 rfl ?_
    refine y_getR dX8_paper_20 lf_X8_12 rfl rfl ?_
    refine y_callV1x (M' := M_X3_readFrom) dX8_paper_23 lm_X8_93 cv_X3_readFrom rfl (Nat.le_of_ble_eq_true rfl) (Nat.le_of_ble_eq_true rfl) rfl (c_readFrom hpp hT _) ?_
    refine z_aload_n dX8_paper_26 rfl ?_
    refine y_getR dX8_paper_27 lf_X8_28 rfl rfl ?_
    refine y_callV0x (M' := M_X4_begin) dX8_paper_30 lm_X8_97 cv_X4_begin rfl (Nat.le_of_ble_eq_true rfl) (Nat.le_of_ble_eq_true rfl) rfl (c_begin hpv hPP sAt10 _) ?_
    refine z_aload_n dX8_paper_33 rfl ?_
    refine y_getR dX8_paper_34 lf_X8_38 rfl rfl ?_
    refine y_callV0x (M' := M_X0_forgetAll) dX8_paper_37 lm_X8_100 cv_X0_forgetAll rfl (Nat.le_of_ble_eq_true rfl) (Nat.le_of_ble_eq_true rfl) rfl (c_forgetAll _) ?_
    rw [show u2 (uR (u2 (rdM (aT A).2 (aT A).1 mu) 10 2 0) 11 (bgr (patOf (aT A).2 (aT A).1) (rdM (aT A).2 (aT A).1 mu 11) (pb (patOf (aT A).2 (aT A).1)))) 14 2 (nI 0) = papM A mu from rfl]
    refine z_iconst (v := nI 0) dX8_paper_40 rfl ?_
    refine z_istore1 dX8_paper_41 rfl ?_
    have hP2 : PFc (patOf (aT A).2 (aT A).1) (papM A mu) := PFc_eq hPP (fun z h1 h2 => by unfold papM; rw [u2_rowa (by omega), uR_a (by omega), u2_rowa (by omega)])
    have hfin : ∀ m i, i + m = 2 → zJ X M_X8_paper (d + 10) 0 0 42 [.ref 0, .int (nI i)] [] 86 (zEE (uR (papM A mu) 45 (fil (fun _ => nI 0) (papM A mu 45) i)) nu) (zlift (QC (f_paper A) mu nu)) := by
      intro m
      induction m with
      | zero =>
        intro i hi
        obtain rfl : i = 2 := by omega
        refine z_iload_n dX8_paper_42 rfl ?_
        refine z_iconst (v := nI 2) dX8_paper_43 rfl ?_
        refine zn_icmp_ge (tgt := 60) dX8_paper_44 (by decide) (by omega) (by omega) (fun hc44 => ?_) (fun hc44 => by omega)
        refine z_bipush (v := nI 100) dX8_paper_60 rfl ?_
        refine z_aload_n dX8_paper_62 rfl ?_
        refine y_getR dX8_paper_63 lf_X8_19 rfl rfl ?_
        refine y_getIe dX8_paper_66 lf_X8_103 rfl rfl ((congrFun (uR_a (by decide)) 0).trans hP2.1) ?_
        refine zn_imul dX8_paper_69 ?_
        refine z_bipush (v := nI 10) dX8_paper_70 rfl ?_
        refine z_aload_n dX8_paper_72 rfl ?_
        refine y_getR dX8_paper_73 lf_X8_19 rfl rfl ?_
        refine y_getIe dX8_paper_76 lf_X8_106 rfl rfl ((congrFun (uR_a (by decide)) 1).trans hP2.2.1) ?_
        refine zn_imul dX8_paper_79 ?_
        refine zn_iadd dX8_paper_80 ?_
        refine z_aload_n dX8_paper_81 rfl ?_
        refine y_getR dX8_paper_82 lf_X8_19 rfl rfl ?_
        refine y_getIe dX8_paper_85 lf_X8_109 rfl rfl ((congrFun (uR_a (by decide)) 4).trans hP2.2.2.2.2.1) ?_
        refine zn_iadd dX8_paper_88 ?_
        exact y_ireturn dX8_paper_89 rfl (by
              have ef : f_paper A = (nI (100 * pw (patOf (aT A).2 (aT A).1) + 10 * ph (patOf (aT A).2 (aT A).1) + pb (patOf (aT A).2 (aT A).1)), newP A (patOf (aT A).2 (aT A).1)) := by unfold f_paper; rw [if_pos hc9]
              rw [ef]
              have e1 : ∀ z, z ≠ 45 → (z = 1 ∨ z = 2 ∨ 15 ≤ z) → uR (papM A mu) 45 (fil (fun _ => nI 0) (papM A mu 45) 2) z = mu z := fun z h1 h2 => by rw [uR_a h1, papM_o A mu z h2]
              refine ⟨rfl, ⟨PFc_eq hP2 (fun z h1 h2 => uR_a (by omega)), ?_, ?_, ?_, SEc_eq hE (fun z h1 h2 => e1 z (by omega) (by omega)), TFc_eq hT (e1 1 (by decide) (by decide)) (e1 2 (by decide) (by decide)), SRH_eq hSR (fun z h1 h2 => e1 z (by omega) (by omega)), hD⟩, ⟨fun z hz => e1 z (by omega) (by omega), rfl⟩⟩
              · exact SFc_eq (SFs_beg (p := patOf (aT A).2 (aT A).1) (mu := rdM (aT A).2 (aT A).1 mu) hpv) (by rw [uR_a (by decide)]; unfold papM; rw [u2_rowa (by decide)]) (by rw [uR_a (by decide)]; unfold papM; rw [u2_rowa (by decide)])
              · obtain ⟨nx, r1, r2, r3, r4⟩ := hR
                exact ⟨nx, r1, by rw [uR_a (by decide), papM_n]; exact r2, by rw [uR_a (by decide)]; unfold papM; rw [u2_s]; rfl, fun i hi => absurd hi (Nat.not_lt_zero _)⟩
              · intro i hi
                show uR (papM A mu) 45 (fil (fun _ => nI 0) (papM A mu 45) 2) 45 i = 0
                rw [uR_s, fil_lt hi]; rfl)
      | succ m ih =>
        intro i hi
        refine z_iload_n dX8_paper_42 rfl ?_
        refine z_iconst (v := nI 2) dX8_paper_43 rfl ?_
        refine zn_icmp_ge (tgt := 60) dX8_paper_44 (by decide) (by omega) (by omega) (fun hc44 => by omega) (fun hc44 => ?_)
        refine z_aload_n dX8_paper_47 rfl ?_
        refine y_getR dX8_paper_48 lf_X8_46 rfl rfl ?_
        refine z_iload_n dX8_paper_51 rfl ?_
        refine z_iconst (v := nI 0) dX8_paper_52 rfl ?_
        refine y_zast dX8_paper_53 rfl (by decide) (by omega) (by first | exact Or.inl rfl | exact Or.inr rfl) ?_
        rw [fil_s (g := fun _ => nI 0)]
        refine zn_iinc1 dX8_paper_54 rfl ?_
        refine z_goto (tgt := 42) dX8_paper_57 (by decide) ?_
        exact ih (i + 1) (by omega)
    have k := hfin 2 0 (by omega)
    rw [fil_0] at k
    exact k
  · refine z_bipush (v := -3) dX8_paper_12 rfl ?_
    exact y_ireturn dX8_paper_14 rfl (QC_rf hC (by simp [f_paper, hc9]))
set_option maxRecDepth 4000 in
theorem k_about {X : zX} {mu : zmu} {nu : znu} {A : AS} (hA : AV A) (hC : CR A mu nu) (x : Int32) (d : Nat) : zJ X M_X8_about (d + 10) 0 0 0 [.ref 0, .int x] [] 86 (zEE (mu) (nu)) (zlift (QC (f_about A x) mu nu)) := by
  obtain ⟨hP, hS, hR, hK, hE, hT, hSR, hD⟩ := id hC
  have hp := hA.1
  have hV := hA.2.1
  have h20 := hA.n
  have h5 := hA.b
  have hct : mu 14 2 = nI (aA A).1 := by obtain ⟨nx, r1, r2, r3, r4⟩ := hR; exact r3
  refine z_iload_n dX8_about_0 rfl ?_
  by_cases g : inr x 11 = true
  · obtain ⟨k, hk, rfl⟩ := inr_t g (by decide)
    obtain rfl | rfl | rfl | rfl | rfl | rfl | rfl | rfl | rfl | rfl | rfl : k = 0 ∨ k = 1 ∨ k = 2 ∨ k = 3 ∨ k = 4 ∨ k = 5 ∨ k = 6 ∨ k = 7 ∨ k = 8 ∨ k = 9 ∨ k = 10 := by omega
    · refine z_tableIn (off := 59) (tgt := 60) dX8_about_1 (by decide) (by decide) rfl (by decide) ?_
      refine z_aload_n dX8_about_60 rfl ?_
      refine y_getR dX8_about_61 lf_X8_19 rfl rfl ?_
      refine y_getIe dX8_about_64 lf_X8_103 rfl rfl hP.1 ?_
      exact y_ireturn dX8_about_67 rfl ⟨by simp [f_about, g, abt, ix_nI, an], hC, FrC_rf⟩
    · refine z_tableIn (off := 67) (tgt := 68) dX8_about_1 (by decide) (by decide) rfl (by decide) ?_
      refine z_aload_n dX8_about_68 rfl ?_
      refine y_getR dX8_about_69 lf_X8_19 rfl rfl ?_
      refine y_getIe dX8_about_72 lf_X8_106 rfl rfl hP.2.1 ?_
      exact y_ireturn dX8_about_75 rfl ⟨by simp [f_about, g, abt, ix_nI, an], hC, FrC_rf⟩
    · refine z_tableIn (off := 75) (tgt := 76) dX8_about_1 (by decide) (by decide) rfl (by decide) ?_
      refine z_aload_n dX8_about_76 rfl ?_
      refine y_getR dX8_about_77 lf_X8_19 rfl rfl ?_
      refine y_getIe dX8_about_80 lf_X8_112 rfl rfl hP.2.2.1 ?_
      exact y_ireturn dX8_about_83 rfl ⟨by simp [f_about, g, abt, ix_nI, an], hC, FrC_rf⟩
    · refine z_tableIn (off := 83) (tgt := 84) dX8_about_1 (by decide) (by decide) rfl (by decide) ?_
      refine z_aload_n dX8_about_84 rfl ?_
      refine y_getR dX8_about_85 lf_X8_19 rfl rfl ?_
      refine y_getIe dX8_about_88 lf_X8_109 rfl rfl hP.2.2.2.2.1 ?_
      exact y_ireturn dX8_about_91 rfl ⟨by simp [f_about, g, abt, ix_nI, an], hC, FrC_rf⟩
    · refine z_tableIn (off := 91) (tgt := 92) dX8_about_1 (by decide) (by decide) rfl (by decide) ?_
      refine z_aload_n dX8_about_92 rfl ?_
      refine y_getR dX8_about_93 lf_X8_28 rfl rfl ?_
      refine z_iconst (v := nI 1) dX8_about_96 rfl ?_
      refine y_callV1x (M' := M_X4_cellsOfKind) dX8_about_97 lm_X8_115 cv_X4_cellsOfKind rfl (Nat.le_of_ble_eq_true rfl) (Nat.le_of_ble_eq_true rfl) rfl (c_cellsOfKind hp hP sAt10 hS hV 1 (by decide) _) ?_
      exact y_ireturn dX8_about_100 rfl ⟨by simp [f_about, g, abt, ix_nI, an], hC, FrC_rf⟩
    · refine z_tableIn (off := 100) (tgt := 101) dX8_about_1 (by decide) (by decide) rfl (by decide) ?_
      refine z_aload_n dX8_about_101 rfl ?_
      refine y_getR dX8_about_102 lf_X8_28 rfl rfl ?_
      refine z_iconst (v := nI 2) dX8_about_105 rfl ?_
      refine y_callV1x (M' := M_X4_cellsOfKind) dX8_about_106 lm_X8_115 cv_X4_cellsOfKind rfl (Nat.le_of_ble_eq_true rfl) (Nat.le_of_ble_eq_true rfl) rfl (c_cellsOfKind hp hP sAt10 hS hV 2 (by decide) _) ?_
      exact y_ireturn dX8_about_109 rfl ⟨by simp [f_about, g, abt, ix_nI, an], hC, FrC_rf⟩
    · refine z_tableIn (off := 109) (tgt := 110) dX8_about_1 (by decide) (by decide) rfl (by decide) ?_
      refine z_aload_n dX8_about_110 rfl ?_
      refine y_getR dX8_about_111 lf_X8_28 rfl rfl ?_
      refine z_iconst (v := nI 3) dX8_about_114 rfl ?_
      refine y_callV1x (M' := M_X4_cellsOfKind) dX8_about_115 lm_X8_115 cv_X4_cellsOfKind rfl (Nat.le_of_ble_eq_true rfl) (Nat.le_of_ble_eq_true rfl) rfl (c_cellsOfKind hp hP sAt10 hS hV 3 (by decide) _) ?_
      exact y_ireturn dX8_about_118 rfl ⟨by simp [f_about, g, abt, ix_nI, an], hC, FrC_rf⟩
    · refine z_tableIn (off := 118) (tgt := 119) dX8_about_1 (by decide) (by decide) rfl (by decide) ?_
      refine z_aload_n dX8_about_119 rfl ?_
      refine y_getR dX8_about_120 lf_X8_28 rfl rfl ?_
      refine y_callV0x (M' := M_X4_whoIsHome) dX8_about_123 lm_X8_119 cv_X4_whoIsHome rfl (Nat.le_of_ble_eq_true rfl) (Nat.le_of_ble_eq_true rfl) rfl (c_whoIsHome hp hP sAt10 hS hV _) ?_
      exact y_ireturn dX8_about_126 rfl ⟨by simp [f_about, g, abt, ix_nI, an], hC, FrC_rf⟩
    · refine z_tableIn (off := 126) (tgt := 127) dX8_about_1 (by decide) (by decide) rfl (by decide) ?_
      refine z_aload_n dX8_about_127 rfl ?_
      refine y_getR dX8_about_128 lf_X8_38 rfl rfl ?_
      refine y_getIe dX8_about_131 lf_X8_122 rfl rfl hct ?_
      exact y_ireturn dX8_about_134 rfl ⟨by simp [f_about, g, abt, ix_nI, an], hC, FrC_rf⟩
    · refine z_tableIn (off := 134) (tgt := 135) dX8_about_1 (by decide) (by decide) rfl (by decide) ?_
      refine z_aload_n dX8_about_135 rfl ?_
      refine y_getR dX8_about_136 lf_X8_67 rfl rfl ?_
      refine y_getIe dX8_about_139 lf_X8_125 rfl rfl hE.1 ?_
      exact y_ireturn dX8_about_142 rfl ⟨by simp [f_about, g, abt, ix_nI, an], hC, FrC_rf⟩
    · refine z_tableIn (off := 142) (tgt := 143) dX8_about_1 (by decide) (by decide) rfl (by decide) ?_
      refine z_aload_n dX8_about_143 rfl ?_
      refine y_getR dX8_about_144 lf_X8_12 rfl rfl ?_
      refine y_getIe dX8_about_147 lf_X8_85 rfl rfl hT.1 ?_
      exact y_ireturn dX8_about_150 rfl ⟨by simp [f_about, g, abt, ix_nI, an], hC, FrC_rf⟩
  · have hx : x.toInt < 0 ∨ 10 < x.toInt := by
      rcases Int.lt_or_le x.toInt 0 with h | h
      · exact Or.inl h
      · right
        rcases Int.lt_or_le 10 x.toInt with h2 | h2
        · exact h2
        · exfalso
          exact g (decide_eq_true ⟨by rw [Int32.le_iff_toInt_le]; simpa using h, by rw [Int32.lt_iff_toInt_lt, show (nI 11).toInt = 11 by decide]; omega⟩)
    refine z_tableOut (tgt := 151) dX8_about_1 hx (by decide) ?_
    refine z_bipush (v := -2) dX8_about_151 rfl ?_
    exact y_ireturn dX8_about_153 rfl (QC_rf hC (by simp [f_about, g]))
set_option maxRecDepth 4000 in
theorem k_cell {X : zX} {mu : zmu} {nu : znu} {A : AS} (hA : AV A) (hC : CR A mu nu) (x : Int32) (d : Nat) : zJ X M_X8_cell (d + 10) 0 0 0 [.ref 0, .int x] [] 86 (zEE (mu) (nu)) (zlift (QC (f_cell A x) mu nu)) := by
  obtain ⟨hP, hS, hR, hK, hE, hT, hSR, hD⟩ := id hC
  have hp := hA.1
  have hV := hA.2.1
  have h20 := hA.n
  have h5 := hA.b
  refine z_aload_n dX8_cell_0 rfl ?_
  refine y_getR dX8_cell_1 lf_X8_19 rfl rfl ?_
  refine z_iload_n dX8_cell_4 rfl ?_
  refine y_callV1x (M' := M_X3_hasCell) dX8_cell_5 lm_X8_126 cv_X3_hasCell rfl (Nat.le_of_ble_eq_true rfl) (Nat.le_of_ble_eq_true rfl) rfl (c_hasCell hp hP x _) ?_
  refine zb_if_eq (tgt := 22) dX8_cell_8 (by decide) (fun hc8 => ?_) (fun hc8 => ?_)
  · have g : inr x (an A) = false := hc8
    refine z_iconst (v := -1) dX8_cell_22 rfl ?_
    exact y_ireturn dX8_cell_23 rfl (QC_rf hC (by simp [f_cell, g]))
  · have g : inr x (an A) = true := hc8
    obtain ⟨c, hc, rfl⟩ := inr_t (show inr x (an A) = true from g) (by omega)
    refine z_aload_n dX8_cell_11 rfl ?_
    refine y_getR dX8_cell_12 lf_X8_28 rfl rfl ?_
    refine z_iload_n dX8_cell_15 rfl ?_
    refine y_callV1x (M' := M_X4_kindAt) dX8_cell_16 lm_X8_129 cv_X4_kindAt rfl (Nat.le_of_ble_eq_true rfl) (Nat.le_of_ble_eq_true rfl) rfl (c_kindAt hp hP sAt10 hc hS.2 hV.2 _) ?_
    refine z_goto (tgt := 23) dX8_cell_19 (by decide) ?_
    exact y_ireturn dX8_cell_23 rfl ⟨by simp [f_cell, g, ix_nI (show c < 2 ^ 31 by omega)], hC, FrC_rf⟩
set_option maxRecDepth 4000 in
theorem k_beside {X : zX} {mu : zmu} {nu : znu} {A : AS} (hA : AV A) (hC : CR A mu nu) (x y : Int32) (s : Bool) (d : Nat) : zJ X M_X8_beside (d + 10) 0 0 0 [.ref 0, .int x, .int y, .int (b2i s)] [] 86 (zEE (mu) (nu)) (zlift (QC (f_beside A x y s) mu nu)) := by
  obtain ⟨hP, hS, hR, hK, hE, hT, hSR, hD⟩ := id hC
  have hp := hA.1
  have hV := hA.2.1
  have h20 := hA.n
  have h5 := hA.b
  refine z_aload_n dX8_beside_0 rfl ?_
  refine y_getR dX8_beside_1 lf_X8_19 rfl rfl ?_
  refine z_iload_n dX8_beside_4 rfl ?_
  refine y_callV1x (M' := M_X3_hasCell) dX8_beside_5 lm_X8_126 cv_X3_hasCell rfl (Nat.le_of_ble_eq_true rfl) (Nat.le_of_ble_eq_true rfl) rfl (c_hasCell hp hP x _) ?_
  refine zb_if_ne (tgt := 13) dX8_beside_8 (by decide) (fun hc8 => ?_) (fun hc8 => ?_)
  · have g : inr x (an A) = true := hc8
    obtain ⟨c, hc, rfl⟩ := inr_t (show inr x (an A) = true from g) (by omega)
    refine z_iload_n dX8_beside_13 rfl ?_
    refine y_callS1x (M' := M_X8_isWay) dX8_beside_14 lm_X8_132 cs_X8_isWay (Nat.le_of_ble_eq_true rfl) (Nat.le_of_ble_eq_true rfl) rfl (c_isWay y _) ?_
    refine zb_if_eq (tgt := 33) dX8_beside_17 (by decide) (fun hc17 => ?_) (fun hc17 => ?_)
    · have g2 : inr y 4 = false := hc17
      refine z_bipush (v := -2) dX8_beside_33 rfl ?_
      exact y_ireturn dX8_beside_35 rfl (QC_rf hC (by simp [f_beside, g, g2]))
    · have g2 : inr y 4 = true := hc17
      obtain ⟨w, hw, rfl⟩ := inr_t (show inr y (4) = true from g2) (by omega)
      refine z_aload_n dX8_beside_20 rfl ?_
      refine y_getR dX8_beside_21 lf_X8_19 rfl rfl ?_
      refine z_iload_n dX8_beside_24 rfl ?_
      refine z_iload_n dX8_beside_25 rfl ?_
      refine z_iload_n dX8_beside_26 rfl ?_
      refine y_callV3x (M' := M_X3_cellBeside) dX8_beside_27 lm_X8_135 cv_X3_cellBeside rfl (Nat.le_of_ble_eq_true rfl) (Nat.le_of_ble_eq_true rfl) rfl (c_cellBeside hp hP hc hw s _) ?_
      refine z_goto (tgt := 35) dX8_beside_30 (by decide) ?_
      exact y_ireturn dX8_beside_35 rfl ⟨by simp [f_beside, g, g2, ix_nI (show c < 2 ^ 31 by omega), ix_nI (show w < 2 ^ 31 by omega)], hC, FrC_rf⟩
  · have g : inr x (an A) = false := hc8
    refine z_iconst (v := -1) dX8_beside_11 rfl ?_
    exact y_ireturn dX8_beside_12 rfl (QC_rf hC (by simp [f_beside, g]))
set_option maxRecDepth 4000 in
theorem k_boy {X : zX} {mu : zmu} {nu : znu} {A : AS} (hA : AV A) (hC : CR A mu nu) (x k : Int32) (d : Nat) : zJ X M_X8_boy (d + 10) 0 0 0 [.ref 0, .int x, .int k, zu] [] 86 (zEE (mu) (nu)) (zlift (QC (f_boy A x k) mu nu)) := by
  obtain ⟨hP, hS, hR, hK, hE, hT, hSR, hD⟩ := id hC
  have hp := hA.1
  have hV := hA.2.1
  have h20 := hA.n
  have h5 := hA.b
  refine z_aload_n dX8_boy_0 rfl ?_
  refine y_getR dX8_boy_1 lf_X8_19 rfl rfl ?_
  refine z_iload_n dX8_boy_4 rfl ?_
  refine y_callV1x (M' := M_X3_hasBoy) dX8_boy_5 lm_X8_139 cv_X3_hasBoy rfl (Nat.le_of_ble_eq_true rfl) (Nat.le_of_ble_eq_true rfl) rfl (c_hasBoy hp hP x _) ?_
  refine zb_if_ne (tgt := 13) dX8_boy_8 (by decide) (fun hc8 => ?_) (fun hc8 => ?_)
  · have g : inr x (pb (aP A)) = true := hc8
    obtain ⟨b, hb, rfl⟩ := inr_t (show inr x (pb (aP A)) = true from g) (by omega)
    refine z_aload_n dX8_boy_13 rfl ?_
    refine y_getR dX8_boy_14 lf_X8_28 rfl rfl ?_
    refine y_getR dX8_boy_17 lf_X8_142 rfl rfl ?_
    refine z_iload_n dX8_boy_20 rfl ?_
    refine y_ialde dX8_boy_21 rfl (by decide) (by omega) (hS.1 b hb) ?_
    refine z_istore3 dX8_boy_22 rfl ?_
    refine z_iload_n dX8_boy_23 rfl ?_
    have hPb := hV.1 b hb
    by_cases g2 : inr k 6 = true
    · obtain ⟨j, hj, rfl⟩ := inr_t g2 (by decide)
      obtain rfl | rfl | rfl | rfl | rfl | rfl : j = 0 ∨ j = 1 ∨ j = 2 ∨ j = 3 ∨ j = 4 ∨ j = 5 := by omega
      · refine z_tableIn (off := 40) (tgt := 64) dX8_boy_24 (by decide) (by decide) rfl (by decide) ?_
        refine z_iload_n dX8_boy_64 rfl ?_
        refine y_callS1x (M' := M_X8_cellOf) dX8_boy_65 lm_X8_146 cs_X8_cellOf (Nat.le_of_ble_eq_true rfl) (Nat.le_of_ble_eq_true rfl) rfl (c_cellOf _ (by omega) _) ?_
        exact y_ireturn dX8_boy_68 rfl ⟨by simp [f_boy, g, g2, byt, ix_nI (show b < 2 ^ 31 by omega), ix_nI], hC, FrC_rf⟩
      · refine z_tableIn (off := 45) (tgt := 69) dX8_boy_24 (by decide) (by decide) rfl (by decide) ?_
        refine z_aload_n dX8_boy_69 rfl ?_
        refine y_getR dX8_boy_70 lf_X8_19 rfl rfl ?_
        refine y_getR dX8_boy_73 lf_X8_149 rfl rfl ?_
        refine z_iload_n dX8_boy_76 rfl ?_
        refine y_ialde dX8_boy_77 rfl (by decide) (by omega) (hP.2.2.2.2.2.2.1 b hb).2 ?_
        exact y_ireturn dX8_boy_78 rfl ⟨by simp [f_boy, g, g2, byt, ix_nI (show b < 2 ^ 31 by omega), ix_nI], hC, FrC_rf⟩
      · refine z_tableIn (off := 55) (tgt := 79) dX8_boy_24 (by decide) (by decide) rfl (by decide) ?_
        refine z_aload_n dX8_boy_79 rfl ?_
        refine y_getR dX8_boy_80 lf_X8_19 rfl rfl ?_
        refine y_getR dX8_boy_83 lf_X8_152 rfl rfl ?_
        refine z_iload_n dX8_boy_86 rfl ?_
        refine y_ialde dX8_boy_87 rfl (by decide) (by omega) (hP.2.2.2.2.2.2.1 b hb).1 ?_
        exact y_ireturn dX8_boy_88 rfl ⟨by simp [f_boy, g, g2, byt, ix_nI (show b < 2 ^ 31 by omega), ix_nI], hC, FrC_rf⟩
      · refine z_tableIn (off := 65) (tgt := 89) dX8_boy_24 (by decide) (by decide) rfl (by decide) ?_
        refine z_iload_n dX8_boy_89 rfl ?_
        refine y_callS1x (M' := M_X8_widthOf) dX8_boy_90 lm_X8_155 cs_X8_widthOf (Nat.le_of_ble_eq_true rfl) (Nat.le_of_ble_eq_true rfl) rfl (c_widthOf _ (by omega) _) ?_
        exact y_ireturn dX8_boy_93 rfl ⟨by simp [f_boy, g, g2, byt, ix_nI (show b < 2 ^ 31 by omega), ix_nI], hC, FrC_rf⟩
      · refine z_tableIn (off := 70) (tgt := 94) dX8_boy_24 (by decide) (by decide) rfl (by decide) ?_
        refine z_iload_n dX8_boy_94 rfl ?_
        refine y_callS1x (M' := M_X8_heightOf) dX8_boy_95 lm_X8_158 cs_X8_heightOf (Nat.le_of_ble_eq_true rfl) (Nat.le_of_ble_eq_true rfl) rfl (c_heightOf _ (by omega) _) ?_
        exact y_ireturn dX8_boy_98 rfl ⟨by simp [f_boy, g, g2, byt, ix_nI (show b < 2 ^ 31 by omega), ix_nI], hC, FrC_rf⟩
      · refine z_tableIn (off := 75) (tgt := 99) dX8_boy_24 (by decide) (by decide) rfl (by decide) ?_
        refine z_aload_n dX8_boy_99 rfl ?_
        refine y_getR dX8_boy_100 lf_X8_28 rfl rfl ?_
        refine z_iload_n dX8_boy_103 rfl ?_
        refine y_callV1x (M' := M_X4_waysOpen) dX8_boy_104 lm_X8_161 cv_X4_waysOpen rfl (Nat.le_of_ble_eq_true rfl) (Nat.le_of_ble_eq_true rfl) rfl (c_waysOpen hp hP sAt10 hS hV hb _) ?_
        exact y_ireturn dX8_boy_107 rfl ⟨by simp [f_boy, g, g2, byt, ix_nI (show b < 2 ^ 31 by omega), ix_nI], hC, FrC_rf⟩
    · have hx : k.toInt < 0 ∨ 5 < k.toInt := by
        rcases Int.lt_or_le k.toInt 0 with h | h
        · exact Or.inl h
        · right
          rcases Int.lt_or_le 5 k.toInt with h2 | h2
          · exact h2
          · exfalso
            exact g2 (decide_eq_true ⟨by rw [Int32.le_iff_toInt_le]; simpa using h, by rw [Int32.lt_iff_toInt_lt, show (nI 6).toInt = 6 by decide]; omega⟩)
      refine z_tableOut (tgt := 108) dX8_boy_24 hx (by decide) ?_
      refine z_bipush (v := -2) dX8_boy_108 rfl ?_
      exact y_ireturn dX8_boy_110 rfl (QC_rf hC (by simp [f_boy, g, g2]))
  · have g : inr x (pb (aP A)) = false := hc8
    refine z_iconst (v := -1) dX8_boy_11 rfl ?_
    exact y_ireturn dX8_boy_12 rfl (QC_rf hC (by simp [f_boy, g]))
