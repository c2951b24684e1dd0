/-! the reference reads a paper -/
def QPn (T : Nat → Nat) (len : Nat) (mu : zmu) (nu : znu) : zq := fun r mu1 nu1 => nu1 = nu ∧ Sm mu mu1 ∧ mu1 66 15 = mu 66 15 ∧ ((r = some (.int (nI 1)) ∧ Tok T ∧ (∀ j, j < 4 + tn T → fitc T j = true) ∧ RT T len (4 + tn T) mu1 ∧ RPf T (tn T) mu1) ∨ (r = some (.int (nI 0)) ∧ ∃ q, q ≤ 48 ∧ mu1 66 3 = nI q ∧ flt T len = nI q))
theorem Sm_rd {mu : zmu} {k : Nat} {v : Int32} (h : 11 ≤ k ∧ k ≤ 15) : Sm mu (u2 mu 66 k v) := Sm_rdr (Or.inl ⟨rfl, Or.inr h⟩)
theorem Sm_71 {mu : zmu} {k : Nat} {v : Int32} : Sm mu (u2 mu 71 k v) := Sm_rdr (Or.inr (Or.inl rfl))
theorem Sm_72 {mu : zmu} {k : Nat} {v : Int32} : Sm mu (u2 mu 72 k v) := Sm_rdr (Or.inr (Or.inr rfl))
theorem fitc_1 {T : Nat → Nat} : fitc T 1 = (decide (50 ≤ T 1) && decide (T 1 ≤ 53)) := rfl
theorem fitc_2 {T : Nat → Nat} : fitc T 2 = (decide (50 ≤ T 2) && decide (T 2 ≤ 52)) := rfl
theorem fitc_3 {T : Nat → Nat} : fitc T 3 = (decide (48 ≤ T 3) && decide (T 3 < T 2)) := rfl
theorem fit_s {T : Nat → Nat} {q : Nat} (hb : ∀ j, j < q → fitc T j = true) (h : fitc T q = true) : ∀ j, j < q + 1 → fitc T j = true := fun j hj => by
  rcases Nat.lt_or_ge j q with g | g
  · exact hb j g
  · obtain rfl : j = q := by omega
    exact h
set_option maxRecDepth 4000 in
theorem m_readPat_l {X : zX} {mu : zmu} {nu : znu} {T : Nat → Nat} {len : Nat} (hk : Tok T) (d : Nat) : ∀ n i mu1, i + n = tn T → RT T len (4 + i) mu1 → RPf T i mu1 → Sm mu mu1 → mu1 66 15 = mu 66 15 → (∀ j, j < 4 + i → fitc T j = true) → zJ X M_X9_readPattern (d + 2) 0 0 82 [.ref 66, .int (nI i)] [] 86 (zEE (mu1) (nu)) (zlift (QPn T len mu nu)) := by
  intro n
  induction n with
  | zero =>
    intro i mu1 hi
    have h20 := tn_20 hk
    intro hR hF hS h15 hb
    obtain rfl : i = tn T := by omega
    refine z_iload_n dX9_readPattern_82 rfl ?_
    refine z_aload_n dX9_readPattern_83 rfl ?_
    refine y_getIe dX9_readPattern_84 lf_X9_95 rfl rfl hF.1 ?_
    refine z_aload_n dX9_readPattern_87 rfl ?_
    refine y_getIe dX9_readPattern_88 lf_X9_98 rfl rfl hF.2.1 ?_
    refine zn_imul dX9_readPattern_91 ?_
    rw [show (T 1 - 48) * (T 2 - 48) = tn T from rfl]
    refine zn_icmp_ge (tgt := 124) dX9_readPattern_92 (by decide) (by omega) (by omega) (fun hc92 => ?_) (fun hc92 => by exact absurd hc92 (Nat.lt_irrefl _))
    refine z_iconst (v := nI 1) dX9_readPattern_124 rfl ?_
    exact y_zreturn dX9_readPattern_125 rfl (Or.inr rfl) ⟨rfl, hS, h15, Or.inl ⟨rfl, hk, hb, hR, hF⟩⟩
  | succ n ih =>
    intro i mu1 hi
    have h20 := tn_20 hk
    intro hR hF hS h15 hb
    refine z_iload_n dX9_readPattern_82 rfl ?_
    refine z_aload_n dX9_readPattern_83 rfl ?_
    refine y_getIe dX9_readPattern_84 lf_X9_95 rfl rfl hF.1 ?_
    refine z_aload_n dX9_readPattern_87 rfl ?_
    refine y_getIe dX9_readPattern_88 lf_X9_98 rfl rfl hF.2.1 ?_
    refine zn_imul dX9_readPattern_91 ?_
    rw [show (T 1 - 48) * (T 2 - 48) = tn T from rfl]
    refine zn_icmp_ge (tgt := 124) dX9_readPattern_92 (by decide) (by omega) (by omega) (fun hc92 => by omega) (fun hc92 => ?_)
    refine z_aload_n dX9_readPattern_95 rfl ?_
    refine y_getR dX9_readPattern_96 lf_X9_29 rfl rfl ?_
    refine z_iload_n dX9_readPattern_99 rfl ?_
    refine z_aload_n dX9_readPattern_100 rfl ?_
    refine y_callV0x (M' := M_X9_readKind) dX9_readPattern_101 lm_X9_115 cv_X9_readKind rfl (Nat.le_of_ble_eq_true rfl) (Nat.le_of_ble_eq_true rfl) rfl (m_readKind hR _) ?_
    have hfc := fitc_c (T := T) (c := i) (by omega)
    cases eo : rkd T len (4 + i) with
    | some k =>
      have hlt : 4 + i < len := by
        refine Nat.lt_of_not_le (fun g => ?_)
        rw [rkd, if_neg (by omega)] at eo; cases eo
      have ekn : knd (T (4 + i)) = some k := by rw [rkd, if_pos hlt] at eo; exact eo
      have hk3 := knd_lt ekn
      have hR1 := RT_u (q := 4 + i + 1) hR (by omega)
      rw [show nxp (some k) (4 + i) = 4 + i + 1 from rfl, show o9 (some k) = nI k from rfl]
      refine y_iast dX9_readPattern_104 rfl (by decide) (by omega) ?_
      refine z_aload_n dX9_readPattern_105 rfl ?_
      refine y_getR dX9_readPattern_106 lf_X9_29 rfl rfl ?_
      refine z_iload_n dX9_readPattern_109 rfl ?_
      refine y_ialde dX9_readPattern_110 rfl (by decide) (by omega) u2_s ?_
      refine z_bipush (v := -9) dX9_readPattern_111 rfl ?_
      refine z_icmp_ne (tgt := 118) dX9_readPattern_113 (by decide) (fun hc113 => ?_) (fun hc113 => by exact absurd hc113 (nI_m9 (by omega)))
      refine zn_iinc1 dX9_readPattern_118 rfl ?_
      refine z_goto (tgt := 82) dX9_readPattern_121 (by decide) ?_
      refine ih (i + 1) _ (by omega) ?_ ?_ (Sm_tr hS (Sm_tr Sm_3 Sm_71)) ((u2_a (by decide)).trans ((u2_k (by decide)).trans h15)) ?_
      · exact RT_o hR1 (Or.inr (Or.inl rfl)) (by omega)
      · have g := RPf_3 (v := nI (4 + i + 1)) hF
        refine ⟨(u2_a (by decide)).trans g.1, (u2_a (by decide)).trans g.2.1, (u2_a (by decide)).trans g.2.2.1, fun c hc => ?_⟩
        by_cases e : c = i
        · rw [e, ekn]; exact ⟨rfl, u2_s⟩
        · exact ⟨(g.2.2.2 c (by omega)).1, (u2_k e).trans (g.2.2.2 c (by omega)).2⟩
      · exact fit_s hb (show fitc T (4 + i) = true by rw [hfc, ekn]; rfl)
    | none =>
      rw [show nxp none (4 + i) = 4 + i from rfl, show o9 none = -9 from rfl]
      refine y_iast dX9_readPattern_104 rfl (by decide) (by omega) ?_
      refine z_aload_n dX9_readPattern_105 rfl ?_
      refine y_getR dX9_readPattern_106 lf_X9_29 rfl rfl ?_
      refine z_iload_n dX9_readPattern_109 rfl ?_
      refine y_ialde dX9_readPattern_110 rfl (by decide) (by omega) u2_s ?_
      refine z_bipush (v := -9) dX9_readPattern_111 rfl ?_
      refine z_icmp_ne (tgt := 118) dX9_readPattern_113 (by decide) (fun hc113 => by exact absurd rfl hc113) (fun hc113 => ?_)
      refine z_iconst (v := nI 0) dX9_readPattern_116 rfl ?_
      exact y_zreturn dX9_readPattern_117 rfl (Or.inl rfl) (by
          have hle := hR.2.2.1
          have h48 := hR.2.2.2.1
          refine ⟨rfl, Sm_tr hS (Sm_tr Sm_3 Sm_71), (u2_a (by decide)).trans ((u2_k (by decide)).trans h15), Or.inr ⟨rfl, 4 + i, by omega, (u2_a (by decide)).trans u2_s, flt_at hb hle (fun g => ?_) (fun e => whl_f (Or.inr (Or.inl (by omega))))⟩⟩
          rw [hfc]
          rw [rkd, if_pos g] at eo
          rw [eo]; rfl)
set_option maxRecDepth 4000 in
theorem m_readPattern {X : zX} {mu : zmu} {nu : znu} {T : Nat → Nat} {len : Nat} (hR : RT T len 1 mu) (hb1 : ∀ j, j < 1 → fitc T j = true) (d : Nat) : zJ X M_X9_readPattern (d + 2) 0 0 0 [.ref 66, zu] [] 86 (zEE (mu) (nu)) (zlift (QPn T len mu nu)) := by
  have hle := hR.2.2.1
  refine z_aload_n dX9_readPattern_0 rfl ?_
  refine z_aload_n dX9_readPattern_1 rfl ?_
  refine z_bipush (v := nI 48) dX9_readPattern_2 rfl ?_
  refine z_iconst (v := nI 2) dX9_readPattern_4 rfl ?_
  refine z_iconst (v := nI 5) dX9_readPattern_5 rfl ?_
  refine y_callV3x (M' := M_X9_from) dX9_readPattern_6 lm_X9_108 cv_X9_from rfl (Nat.le_of_ble_eq_true rfl) (Nat.le_of_ble_eq_true rfl) rfl (m_from hR (by decide) (by decide) (by decide) _) ?_
  by_cases g1 : 1 < len ∧ (48 + 2 ≤ T 1 ∧ T 1 ≤ 48 + (5))
  · have eo : frm T len 48 2 (5) 1 = some (T 1 - 48) := by simp only [frm]; rw [if_pos g1]
    rw [eo, show nxp (some (T 1 - 48)) 1 = 2 from rfl, show o9 (some (T 1 - 48)) = nI (T 1 - 48) from rfl]
    have h25 := hR.2.2.2.2 1 (by omega)
    have hb2 := fit_s hb1 (show fitc T 1 = true by rw [fitc_1]; simp; omega)
    have hR2 := RT_o (a := 66) (k := 11) (v := nI (T 1 - 48)) (RT_u (q := 2) hR (by omega)) (Or.inl ⟨rfl, by omega⟩) (by omega)
    refine y_putI dX9_readPattern_9 lp_X9_95 rfl rfl ?_
    refine z_aload_n dX9_readPattern_12 rfl ?_
    refine z_aload_n dX9_readPattern_13 rfl ?_
    refine y_getIe dX9_readPattern_14 lf_X9_95 rfl rfl u2_s ?_
    refine z_bipush (v := -9) dX9_readPattern_17 rfl ?_
    refine z_icmp_ne (tgt := 27) dX9_readPattern_19 (by decide) (fun hc19 => ?_) (fun hc19 => by exact absurd hc19 (nI_m9 (by omega)))
    refine z_aload_n dX9_readPattern_27 rfl ?_
    refine z_bipush (v := nI 48) dX9_readPattern_28 rfl ?_
    refine z_iconst (v := nI 2) dX9_readPattern_30 rfl ?_
    refine z_iconst (v := nI 4) dX9_readPattern_31 rfl ?_
    refine y_callV3x (M' := M_X9_from) dX9_readPattern_32 lm_X9_108 cv_X9_from rfl (Nat.le_of_ble_eq_true rfl) (Nat.le_of_ble_eq_true rfl) rfl (m_from hR2 (by decide) (by decide) (by decide) _) ?_
    by_cases g2 : 2 < len ∧ (48 + 2 ≤ T 2 ∧ T 2 ≤ 48 + (4))
    · have eo : frm T len 48 2 (4) 2 = some (T 2 - 48) := by simp only [frm]; rw [if_pos g2]
      rw [eo, show nxp (some (T 2 - 48)) 2 = 3 from rfl, show o9 (some (T 2 - 48)) = nI (T 2 - 48) from rfl]
      have h25 := hR.2.2.2.2 2 (by omega)
      have hb3 := fit_s hb2 (show fitc T 2 = true by rw [fitc_2]; simp; omega)
      have hR3 := RT_o (a := 66) (k := 12) (v := nI (T 2 - 48)) (RT_u (q := 3) hR2 (by omega)) (Or.inl ⟨rfl, by omega⟩) (by omega)
      refine y_putI dX9_readPattern_35 lp_X9_98 rfl rfl ?_
      refine z_aload_n dX9_readPattern_38 rfl ?_
      refine z_aload_n dX9_readPattern_39 rfl ?_
      refine y_getIe dX9_readPattern_40 lf_X9_98 rfl rfl u2_s ?_
      refine z_bipush (v := -9) dX9_readPattern_43 rfl ?_
      refine z_icmp_ne (tgt := 53) dX9_readPattern_45 (by decide) (fun hc45 => ?_) (fun hc45 => by exact absurd hc45 (nI_m9 (by omega)))
      refine z_aload_n dX9_readPattern_53 rfl ?_
      refine z_bipush (v := nI 48) dX9_readPattern_54 rfl ?_
      refine z_iconst (v := nI 0) dX9_readPattern_56 rfl ?_
      refine z_aload_n dX9_readPattern_57 rfl ?_
      refine y_getIe dX9_readPattern_58 lf_X9_98 rfl rfl u2_s ?_
      refine z_iconst (v := nI 1) dX9_readPattern_61 rfl ?_
      refine zn_isub dX9_readPattern_62 (by omega) ?_
      refine y_callV3x (M' := M_X9_from) dX9_readPattern_63 lm_X9_108 cv_X9_from rfl (Nat.le_of_ble_eq_true rfl) (Nat.le_of_ble_eq_true rfl) rfl (m_from hR3 (by decide) (by decide) (by omega) _) ?_
      by_cases g3 : 3 < len ∧ (48 + 0 ≤ T 3 ∧ T 3 ≤ 48 + (T 2 - 48 - 1))
      · have eo : frm T len 48 0 (T 2 - 48 - 1) 3 = some (T 3 - 48) := by simp only [frm]; rw [if_pos g3]
        rw [eo, show nxp (some (T 3 - 48)) 3 = 4 from rfl, show o9 (some (T 3 - 48)) = nI (T 3 - 48) from rfl]
        have h25 := hR.2.2.2.2 3 (by omega)
        have hk : Tok T := ⟨by omega, by omega, by omega, by omega⟩
        have hb4 := fit_s hb3 (show fitc T 3 = true by rw [fitc_3]; simp; omega)
        refine y_putI dX9_readPattern_66 lp_X9_112 rfl rfl ?_
        refine z_aload_n dX9_readPattern_69 rfl ?_
        refine y_getIe dX9_readPattern_70 lf_X9_112 rfl rfl u2_s ?_
        refine z_bipush (v := -9) dX9_readPattern_73 rfl ?_
        refine z_icmp_ne (tgt := 80) dX9_readPattern_75 (by decide) (fun hc75 => ?_) (fun hc75 => by exact absurd hc75 (nI_m9 (by omega)))
        refine z_iconst (v := nI 0) dX9_readPattern_80 rfl ?_
        refine z_istore1 dX9_readPattern_81 rfl ?_
        refine m_readPat_l hk d (tn T) 0 _ (by omega) ?_ ?_ (Sm_tr (Sm_tr Sm_3 (Sm_rd (by omega))) (Sm_tr (Sm_tr Sm_3 (Sm_rd (by omega))) (Sm_tr Sm_3 (Sm_rd (by omega))))) ?_ hb4
        · exact RT_o (RT_u (q := 4) hR3 (by omega)) (Or.inl ⟨rfl, by omega⟩) (by omega)
        · refine ⟨?_, ?_, ?_, fun c hc => absurd hc (Nat.not_lt_zero _)⟩ <;> (simp only [u2]; simp)
        · simp only [u2]; simp
      · have eo : frm T len 48 0 (T 2 - 48 - 1) 3 = none := by simp only [frm]; rw [if_neg g3]
        rw [eo, show nxp none 3 = 3 from rfl, show o9 none = -9 from rfl]
        refine y_putI dX9_readPattern_66 lp_X9_112 rfl rfl ?_
        refine z_aload_n dX9_readPattern_69 rfl ?_
        refine y_getIe dX9_readPattern_70 lf_X9_112 rfl rfl u2_s ?_
        refine z_bipush (v := -9) dX9_readPattern_73 rfl ?_
        refine z_icmp_ne (tgt := 80) dX9_readPattern_75 (by decide) (fun hc75 => by exact absurd rfl hc75) (fun hc75 => ?_)
        refine z_iconst (v := nI 0) dX9_readPattern_78 rfl ?_
        exact y_zreturn dX9_readPattern_79 rfl (Or.inl rfl) (by
            refine ⟨rfl, Sm_tr (Sm_tr Sm_3 (Sm_rd (by omega))) (Sm_tr (Sm_tr Sm_3 (Sm_rd (by omega))) (Sm_tr Sm_3 (Sm_rd (by omega)))), ?_, Or.inr ⟨rfl, 3, by omega, ?_, flt_at hb3 (by omega) (fun g => ?_) (fun e => whl_f (Or.inl (by omega)))⟩⟩
            · simp only [u2]; simp
            · simp only [u2]; simp
            · rw [fitc_3]
              simp; intro _; omega)
    · have eo : frm T len 48 2 (4) 2 = none := by simp only [frm]; rw [if_neg g2]
      rw [eo, show nxp none 2 = 2 from rfl, show o9 none = -9 from rfl]
      refine y_putI dX9_readPattern_35 lp_X9_98 rfl rfl ?_
      refine z_aload_n dX9_readPattern_38 rfl ?_
      refine z_aload_n dX9_readPattern_39 rfl ?_
      refine y_getIe dX9_readPattern_40 lf_X9_98 rfl rfl u2_s ?_
      refine z_bipush (v := -9) dX9_readPattern_43 rfl ?_
      refine z_icmp_ne (tgt := 53) dX9_readPattern_45 (by decide) (fun hc45 => by exact absurd rfl hc45) (fun hc45 => ?_)
      refine z_bipush (v := -9) dX9_readPattern_48 rfl ?_
      refine z_goto (tgt := 66) dX9_readPattern_50 (by decide) ?_
      refine y_putI dX9_readPattern_66 lp_X9_112 rfl rfl ?_
      refine z_aload_n dX9_readPattern_69 rfl ?_
      refine y_getIe dX9_readPattern_70 lf_X9_112 rfl rfl u2_s ?_
      refine z_bipush (v := -9) dX9_readPattern_73 rfl ?_
      refine z_icmp_ne (tgt := 80) dX9_readPattern_75 (by decide) (fun hc75 => by exact absurd rfl hc75) (fun hc75 => ?_)
      refine z_iconst (v := nI 0) dX9_readPattern_78 rfl ?_
      exact y_zreturn dX9_readPattern_79 rfl (Or.inl rfl) (by
          refine ⟨rfl, Sm_tr (Sm_tr Sm_3 (Sm_rd (by omega))) (Sm_tr (Sm_tr Sm_3 (Sm_rd (by omega))) (Sm_rd (by omega))), ?_, Or.inr ⟨rfl, 2, by omega, ?_, flt_at hb2 (by omega) (fun g => ?_) (fun e => whl_f (Or.inl (by omega)))⟩⟩
          · simp only [u2]; simp
          · simp only [u2]; simp
          · rw [fitc_2]
            simp; intro _; omega)
  · have eo : frm T len 48 2 (5) 1 = none := by simp only [frm]; rw [if_neg g1]
    rw [eo, show nxp none 1 = 1 from rfl, show o9 none = -9 from rfl]
    refine y_putI dX9_readPattern_9 lp_X9_95 rfl rfl ?_
    refine z_aload_n dX9_readPattern_12 rfl ?_
    refine z_aload_n dX9_readPattern_13 rfl ?_
    refine y_getIe dX9_readPattern_14 lf_X9_95 rfl rfl u2_s ?_
    refine z_bipush (v := -9) dX9_readPattern_17 rfl ?_
    refine z_icmp_ne (tgt := 27) dX9_readPattern_19 (by decide) (fun hc19 => by exact absurd rfl hc19) (fun hc19 => ?_)
    refine z_bipush (v := -9) dX9_readPattern_22 rfl ?_
    refine z_goto (tgt := 35) dX9_readPattern_24 (by decide) ?_
    refine y_putI dX9_readPattern_35 lp_X9_98 rfl rfl ?_
    refine z_aload_n dX9_readPattern_38 rfl ?_
    refine z_aload_n dX9_readPattern_39 rfl ?_
    refine y_getIe dX9_readPattern_40 lf_X9_98 rfl rfl u2_s ?_
    refine z_bipush (v := -9) dX9_readPattern_43 rfl ?_
    refine z_icmp_ne (tgt := 53) dX9_readPattern_45 (by decide) (fun hc45 => by exact absurd rfl hc45) (fun hc45 => ?_)
    refine z_bipush (v := -9) dX9_readPattern_48 rfl ?_
    refine z_goto (tgt := 66) dX9_readPattern_50 (by decide) ?_
    refine y_putI dX9_readPattern_66 lp_X9_112 rfl rfl ?_
    refine z_aload_n dX9_readPattern_69 rfl ?_
    refine y_getIe dX9_readPattern_70 lf_X9_112 rfl rfl u2_s ?_
    refine z_bipush (v := -9) dX9_readPattern_73 rfl ?_
    refine z_icmp_ne (tgt := 80) dX9_readPattern_75 (by decide) (fun hc75 => by exact absurd rfl hc75) (fun hc75 => ?_)
    refine z_iconst (v := nI 0) dX9_readPattern_78 rfl ?_
    exact y_zreturn dX9_readPattern_79 rfl (Or.inl rfl) (by
        refine ⟨rfl, Sm_tr (Sm_tr Sm_3 (Sm_rd (by omega))) (Sm_tr (Sm_rd (by omega)) (Sm_rd (by omega))), ?_, Or.inr ⟨rfl, 1, by omega, ?_, flt_at hb1 (by omega) (fun g => ?_) (fun e => whl_f (Or.inl (by omega)))⟩⟩
        · simp only [u2]; simp
        · simp only [u2]; simp
        · rw [fitc_1]
          simp; intro _; omega)
def QR (T : Nat → Nat) (len : Nat) (mu : zmu) (nu : znu) : zq := fun r mu1 nu1 => r = some (.int (flt T len)) ∧ nu1 = nu ∧ Sm mu mu1 ∧ (flt T len = -9 → RPf T (tn T) mu1 ∧ RB T ((len - 4 - tn T) / 3) mu1)
theorem QR_n {T : Nat → Nat} {len q : Nat} {mu mu1 : zmu} {nu : znu} (h : flt T len = nI q) (hq : q ≤ 48) (hS : Sm mu mu1) : QR T len mu nu (some (.int (nI q))) mu1 nu := ⟨by rw [h], rfl, hS, fun e => absurd (h.symm.trans e) (nI_m9 (by omega))⟩
set_option maxRecDepth 4000 in
theorem m_readPap_l {X : zX} {mu : zmu} {nu : znu} {T : Nat → Nat} {len : Nat} (hk : Tok T) (d : Nat) : ∀ n i mu1, i + n = 6 → i ≤ 5 → RT T len (4 + tn T + i * 3) mu1 → RPf T (tn T) mu1 → RB T i mu1 → Sm mu mu1 → (∀ j, j < 4 + tn T + i * 3 → fitc T j = true) → zJ X M_X9_readPaper (d + 4) 0 0 47 [.ref 66] [] 86 (zEE (mu1) (nu)) (zlift (QR T len mu nu)) := by
  intro n
  induction n with
  | zero =>
    intro i mu1 hi
    have h20 := tn_20 hk
    intro h5 hR hF hB hS hb
    omega
  | succ n ih =>
    intro i mu1 hi
    have h20 := tn_20 hk
    intro h5 hR hF hB hS hb
    have hle := hR.2.2.1
    have h48 := hR.2.2.2.1
    have ht2 : mu1 66 2 = nI len := hR.1.1
    refine z_aload_n dX9_readPaper_47 rfl ?_
    refine y_getIe dX9_readPaper_48 lf_X9_92 rfl rfl hR.2.1 ?_
    refine z_aload_n dX9_readPaper_51 rfl ?_
    refine y_getIe dX9_readPaper_52 lf_X9_89 rfl rfl ht2 ?_
    refine zn_icmp_ge (tgt := 70) dX9_readPaper_55 (by decide) (by omega) (by omega) (fun hc55 => ?_) (fun hc55 => ?_)
    · have hw : whl T len = true := by unfold whl; simp; omega
      have ef : flt T len = -9 := by rw [flt_none (fun j hj => hb j (by omega)), hw]; rfl
      refine z_bipush (v := -9) dX9_readPaper_70 rfl ?_
      exact y_ireturn dX9_readPaper_72 rfl ⟨by rw [ef], rfl, hS, fun _ => ⟨hF, by rw [show (len - 4 - tn T) / 3 = i by omega]; exact hB⟩⟩
    · refine z_aload_n dX9_readPaper_58 rfl ?_
      refine y_callV0 (M' := M_X9_readOneBoy) dX9_readPaper_59 lm_X9_122 cv_X9_readOneBoy rfl (Nat.le_of_ble_eq_true rfl) (Nat.le_of_ble_eq_true rfl) rfl (m_readOneBoy hk hR hF hB h5 rfl hc55 hb _) (fun r mu2 nu2 hq => ?_)
      obtain ⟨rfl, hS2, ⟨rfl, hb2, hR2, hF2, hB2, hk5⟩ | ⟨rfl, q, hq, hp3, hfl⟩⟩ := hq
      · refine zn_if_ne (tgt := 47) dX9_readPaper_62 (by decide) (by omega) (fun hc62 => ?_) (fun hc62 => by omega)
        have e3 : 4 + tn T + i * 3 + 3 = 4 + tn T + (i + 1) * 3 := by omega
        rw [e3] at hb2 hR2
        exact ih (i + 1) mu2 (by omega) (by omega) hR2 hF2 hB2 (Sm_tr hS hS2) hb2
      · refine zn_if_ne (tgt := 47) dX9_readPaper_62 (by decide) (by omega) (fun hc62 => by omega) (fun hc62 => ?_)
        refine z_aload_n dX9_readPaper_65 rfl ?_
        refine y_getIe dX9_readPaper_66 lf_X9_92 rfl rfl hp3 ?_
        exact y_ireturn dX9_readPaper_69 rfl (QR_n hfl hq (Sm_tr hS hS2))
set_option maxRecDepth 4000 in
theorem m_readPaper {X : zX} {mu : zmu} {nu : znu} {T : Nat → Nat} {len : Nat} (hT : TM (len, T) mu) (h48 : len ≤ 48) (h256 : ∀ i, i < 48 → T i < 256) (d : Nat) : zJ X M_X9_readPaper (d + 4) 0 0 0 [.ref 66] [] 86 (zEE (mu) (nu)) (zlift (QR T len mu nu)) := by
  have hS1 : Sm mu (u2 (u2 (u2 mu 66 3 (nI 0)) 66 15 (nI 0)) 66 3 (nI 1)) := Sm_tr Sm_3 (Sm_tr (Sm_rd (by omega)) Sm_3)
  have ht2 : u2 (u2 mu 66 3 (nI 0)) 66 15 (nI 0) 66 2 = nI len := (u2_k (by decide)).trans ((u2_k (by decide)).trans hT.1)
  refine z_aload_n dX9_readPaper_0 rfl ?_
  refine z_iconst (v := nI 0) dX9_readPaper_1 rfl ?_
  refine y_putI dX9_readPaper_2 lp_X9_92 rfl rfl ?_
  refine z_aload_n dX9_readPaper_5 rfl ?_
  refine z_iconst (v := nI 0) dX9_readPaper_6 rfl ?_
  refine y_putI dX9_readPaper_7 lp_X9_101 rfl rfl ?_
  refine z_aload_n dX9_readPaper_10 rfl ?_
  refine y_getIe dX9_readPaper_11 lf_X9_89 rfl rfl ht2 ?_
  refine zn_if_eq (tgt := 28) dX9_readPaper_14 (by decide) (by omega) (fun hc14 => ?_) (fun hc14 => ?_)
  · refine z_iconst (v := nI 0) dX9_readPaper_28 rfl ?_
    exact y_ireturn dX9_readPaper_29 rfl (by subst hc14; exact QR_n (q := 0) (flt_at (fun j hj => absurd hj (Nat.not_lt_zero _)) (by omega) (fun g => absurd g (by omega)) (fun _ => whl_f (Or.inl (by omega)))) (by omega) (Sm_tr Sm_3 (Sm_rd (by omega))))
  · have h25 := h256 0 (by decide)
    have hT0 : u2 (u2 mu 66 3 (nI 0)) 66 15 (nI 0) 67 0 = nI (T 0) := (u2_a (by decide)).trans ((u2_a (by decide)).trans (hT.2 0 (by omega)))
    refine z_aload_n dX9_readPaper_17 rfl ?_
    refine y_getR dX9_readPaper_18 lf_X9_7 rfl rfl ?_
    refine z_iconst (v := nI 0) dX9_readPaper_21 rfl ?_
    refine y_ialde dX9_readPaper_22 rfl (by decide) (by decide) hT0 ?_
    refine z_bipush (v := nI 87) dX9_readPaper_23 rfl ?_
    refine zn_icmp_eq (tgt := 30) dX9_readPaper_25 (by decide) (by omega) (by omega) (fun hc25 => ?_) (fun hc25 => ?_)
    · refine z_aload_n dX9_readPaper_30 rfl ?_
      refine z_iconst (v := nI 1) dX9_readPaper_31 rfl ?_
      refine y_putI dX9_readPaper_32 lp_X9_92 rfl rfl ?_
      refine z_aload_n dX9_readPaper_35 rfl ?_
      have hb1 : ∀ j, j < 1 → fitc T j = true := fun j hj => by
        obtain rfl : j = 0 := by omega
        show (T 0 == 87) = true
        simp [hc25]
      have hR1 : RT T len 1 (u2 (u2 (u2 mu 66 3 (nI 0)) 66 15 (nI 0)) 66 3 (nI 1)) := ⟨TM_e hT (hS1 66 2 (by unfold live; omega)) (Sm_row hS1 (by omega)), u2_s, by omega, h48, h256⟩
      refine y_callV0 (M' := M_X9_readPattern) dX9_readPaper_36 lm_X9_119 cv_X9_readPattern rfl (Nat.le_of_ble_eq_true rfl) (Nat.le_of_ble_eq_true rfl) rfl (m_readPattern hR1 hb1 _) (fun r mu2 nu2 hq => ?_)
      obtain ⟨rfl, hS2, h15, ⟨rfl, hk, hb2, hR2, hF2⟩ | ⟨rfl, q, hq, hp3, hfl⟩⟩ := hq
      · refine zn_if_ne (tgt := 47) dX9_readPaper_39 (by decide) (by omega) (fun hc39 => ?_) (fun hc39 => by omega)
        have h15 : mu2 66 15 = nI 0 := h15.trans ((u2_k (by decide)).trans u2_s)
        exact m_readPap_l (mu := mu) hk d 6 0 mu2 (by omega) (by omega) (by rw [Nat.zero_mul]; exact hR2) hF2 ⟨h15, fun b hb => absurd hb (Nat.not_lt_zero _)⟩ (Sm_tr hS1 hS2) (by rw [Nat.zero_mul]; exact hb2)
      · refine zn_if_ne (tgt := 47) dX9_readPaper_39 (by decide) (by omega) (fun hc39 => by omega) (fun hc39 => ?_)
        refine z_aload_n dX9_readPaper_42 rfl ?_
        refine y_getIe dX9_readPaper_43 lf_X9_92 rfl rfl hp3 ?_
        exact y_ireturn dX9_readPaper_46 rfl (QR_n hfl hq (Sm_tr hS1 hS2))
    · refine z_iconst (v := nI 0) dX9_readPaper_28 rfl ?_
      exact y_ireturn dX9_readPaper_29 rfl (QR_n (q := 0) (flt_at (fun j hj => absurd hj (Nat.not_lt_zero _)) (by omega) (fun g => by show (T 0 == 87) = false; simp [hc25]) (fun e => absurd e.symm hc14)) (by omega) (Sm_tr Sm_3 (Sm_rd (by omega))))
set_option maxRecDepth 4000 in
theorem r_fault {X : zX} {mu : zmu} {nu : znu} {A : AS} (hA : AV A) (hC : MR A mu nu) (d : Nat) : zJ X M_X9_fault (d + 10) 0 0 0 [.ref 66] [] 86 (zEE (mu) (nu)) (zlift (QM (f_fault A) mu nu)) := by
  refine z_aload_n dX9_fault_0 rfl ?_
  refine z_iconst (v := nI 0) dX9_fault_1 rfl ?_
  refine y_putI dX9_fault_2 lp_X9_75 rfl rfl ?_
  refine zJ_mono (Q := QM (f_fault A) (u2 mu 66 0 (nI 0)) nu) ?_ QM_th
  replace hC := MR_m hC (Sm_th (mu := mu) (v := nI 0)) rfl
  generalize u2 mu 66 0 (nI 0) = mu at hC ⊢
  obtain ⟨hM, hG, hB, hKe, hE, hT, hD⟩ := id hC
  refine z_aload_n dX9_fault_5 rfl ?_
  refine y_callV0 (M' := M_X9_readPaper) dX9_fault_6 lm_X9_125 cv_X9_readPaper rfl (Nat.le_of_ble_eq_true rfl) (Nat.le_of_ble_eq_true rfl) rfl (m_readPaper (T := (aT A).2) (len := (aT A).1) hT hA.2.2.2.2.2.1 hA.2.2.2.2.2.2 _) (fun r mu2 nu2 hq => ?_)
  obtain ⟨rfl, rfl, hS2, -⟩ := hq
  exact y_ireturn dX9_fault_9 rfl (QM_m hC hS2 rfl)
def LA (p : PT) (mu : zmu) : Prop := mu 66 4 = nI (pw p) ∧ mu 66 5 = nI (ph p) ∧ mu 66 6 = nI (pd p) ∧ mu 66 8 = nI (pb p) ∧ (∀ c, c < pw p * ph p → mu 71 c = nI (pK p c)) ∧ (∀ b, b < pb p → mu 72 (2 * b) = nI (pH p b) ∧ mu 72 (2 * b + 1) = nI (pX p b))
/-- only the rows that a new paper writes -/
def Sq (mu mu1 : zmu) : Prop := ∀ x, x ≠ 68 → x ≠ 69 → x ≠ 70 → x ≠ 73 → mu1 x = mu x
theorem Sq_rf {mu : zmu} : Sq mu mu := fun _ _ _ _ _ => rfl
theorem Sq_tr {m1 m2 m3 : zmu} (h : Sq m1 m2) (g : Sq m2 m3) : Sq m1 m3 := fun x a b c d => (g x a b c d).trans (h x a b c d)
theorem Sq_u {mu : zmu} {a k : Nat} {v : Int32} (h : a = 68 ∨ a = 69 ∨ a = 70 ∨ a = 73) : Sq mu (u2 mu a k v) := fun x a b c d => u2_rowa (by omega)
theorem LA_q {p : PT} {mu mu1 : zmu} (h : LA p mu) (e : Sq mu mu1) : LA p mu1 := by
  have e66 := e 66 (by decide) (by decide) (by decide) (by decide)
  have e71 := e 71 (by decide) (by decide) (by decide) (by decide)
  have e72 := e 72 (by decide) (by decide) (by decide) (by decide)
  unfold LA at *
  rw [e66, e71, e72]; exact h
set_option maxRecDepth 4000 in
theorem m_pap3 {X : zX} {mu : zmu} {nu : znu} {p : PT} (hp : PV p) (hL : LA p mu) {Q : zq} (d : Nat) (kk : ∀ mu9, Sq mu mu9 → mu9 68 = mu 68 → (∀ b, b < pb p → mu9 69 b = nI (pH p b) ∧ mu9 70 b = nI (pX p b) ∧ mu9 73 b = nI (pH p b) ∧ mu9 73 (5 + b) = nI 3 ∧ mu9 73 (10 + b) = nI 3) → mu9 73 15 = mu 73 15 → zJ X M_X9_paper (d + 10) 0 0 190 [.ref 66, zu] [] 86 (zEE (mu9) (nu)) (zlift (Q))) : ∀ n i mu1, i + n = pb p → Sq mu mu1 → mu1 68 = mu 68 → (∀ b, b < i → mu1 69 b = nI (pH p b) ∧ mu1 70 b = nI (pX p b) ∧ mu1 73 b = nI (pH p b) ∧ mu1 73 (5 + b) = nI 3 ∧ mu1 73 (10 + b) = nI 3) → mu1 73 15 = mu 73 15 → zJ X M_X9_paper (d + 10) 0 0 115 [.ref 66, .int (nI i)] [] 86 (zEE (mu1) (nu)) (zlift (Q)) := by
  intro n
  induction n with
  | zero =>
    intro i mu1 hi
    have h20 := hp.n20
    have h5 : pb p ≤ 5 := hp.2.2.2.2.2.1
    intro hS h68 hv h15
    have hL1 := LA_q hL hS
    obtain rfl : i = pb p := by omega
    refine z_iload_n dX9_paper_115 rfl ?_
    refine z_aload_n dX9_paper_116 rfl ?_
    refine y_getIe dX9_paper_117 lf_X9_78 rfl rfl hL1.2.2.2.1 ?_
    refine zn_icmp_ge (tgt := 190) dX9_paper_120 (by decide) (by omega) (by omega) (fun hc120 => ?_) (fun hc120 => by exact absurd hc120 (Nat.lt_irrefl _))
    exact z_sub (kk mu1 hS h68 hv h15) ⟨Or.inr rfl, Or.inl rfl, trivial⟩
  | succ n ih =>
    intro i mu1 hi
    have h20 := hp.n20
    have h5 : pb p ≤ 5 := hp.2.2.2.2.2.1
    intro hS h68 hv h15
    have hL1 := LA_q hL hS
    have hbi := hL1.2.2.2.2.2 i (by omega)
    refine z_iload_n dX9_paper_115 rfl ?_
    refine z_aload_n dX9_paper_116 rfl ?_
    refine y_getIe dX9_paper_117 lf_X9_78 rfl rfl hL1.2.2.2.1 ?_
    refine zn_icmp_ge (tgt := 190) dX9_paper_120 (by decide) (by omega) (by omega) (fun hc120 => by omega) (fun hc120 => ?_)
    refine z_aload_n dX9_paper_123 rfl ?_
    refine y_getR dX9_paper_124 lf_X9_23 rfl rfl ?_
    refine z_iload_n dX9_paper_127 rfl ?_
    refine z_aload_n dX9_paper_128 rfl ?_
    refine y_getR dX9_paper_129 lf_X9_32 rfl rfl ?_
    refine z_iconst (v := nI 2) dX9_paper_132 rfl ?_
    refine z_iload_n dX9_paper_133 rfl ?_
    refine zn_imul dX9_paper_134 ?_
    refine y_ialde dX9_paper_135 rfl (by decide) (by omega) hbi.1 ?_
    refine y_iast dX9_paper_136 rfl (by decide) (by omega) ?_
    refine z_aload_n dX9_paper_137 rfl ?_
    refine y_getR dX9_paper_138 lf_X9_26 rfl rfl ?_
    refine z_iload_n dX9_paper_141 rfl ?_
    refine z_aload_n dX9_paper_142 rfl ?_
    refine y_getR dX9_paper_143 lf_X9_32 rfl rfl ?_
    refine z_iconst (v := nI 2) dX9_paper_146 rfl ?_
    refine z_iload_n dX9_paper_147 rfl ?_
    refine zn_imul dX9_paper_148 ?_
    refine z_iconst (v := nI 1) dX9_paper_149 rfl ?_
    refine zn_iadd dX9_paper_150 ?_
    refine y_ialde dX9_paper_151 rfl (by decide) (by omega) ((u2_a (by decide)).trans hbi.2) ?_
    refine y_iast dX9_paper_152 rfl (by decide) (by omega) ?_
    refine z_aload_n dX9_paper_153 rfl ?_
    refine y_getR dX9_paper_154 lf_X9_35 rfl rfl ?_
    refine z_iload_n dX9_paper_157 rfl ?_
    refine z_aload_n dX9_paper_158 rfl ?_
    refine y_getR dX9_paper_159 lf_X9_23 rfl rfl ?_
    refine z_iload_n dX9_paper_162 rfl ?_
    refine y_ialde dX9_paper_163 rfl (by decide) (by omega) ((u2_a (by decide)).trans u2_s) ?_
    refine y_iast dX9_paper_164 rfl (by decide) (by omega) ?_
    refine z_aload_n dX9_paper_165 rfl ?_
    refine y_getR dX9_paper_166 lf_X9_35 rfl rfl ?_
    refine z_iconst (v := nI 5) dX9_paper_169 rfl ?_
    refine z_iload_n dX9_paper_170 rfl ?_
    refine zn_iadd dX9_paper_171 ?_
    refine z_iconst (v := nI 3) dX9_paper_172 rfl ?_
    refine y_iast dX9_paper_173 rfl (by decide) (by omega) ?_
    refine z_aload_n dX9_paper_174 rfl ?_
    refine y_getR dX9_paper_175 lf_X9_35 rfl rfl ?_
    refine z_bipush (v := nI 10) dX9_paper_178 rfl ?_
    refine z_iload_n dX9_paper_180 rfl ?_
    refine zn_iadd dX9_paper_181 ?_
    refine z_iconst (v := nI 3) dX9_paper_182 rfl ?_
    refine y_iast dX9_paper_183 rfl (by decide) (by omega) ?_
    refine zn_iinc1 dX9_paper_184 rfl ?_
    refine z_goto (tgt := 115) dX9_paper_187 (by decide) ?_
    refine ih (i + 1) _ (by omega) (Sq_tr hS (Sq_tr (Sq_u (by omega)) (Sq_tr (Sq_u (by omega)) (Sq_tr (Sq_u (by omega)) (Sq_tr (Sq_u (by omega)) (Sq_u (by omega))))))) (by rw [u2_rowa (by decide), u2_rowa (by decide), u2_rowa (by decide), u2_rowa (by decide), u2_rowa (by decide)]; exact h68) (fun b hb => ?_) (by rw [u2_k (by omega), u2_k (by omega), u2_k (by omega), u2_a (by decide), u2_a (by decide)]; exact h15)
    by_cases e : b = i
    · subst e
      refine ⟨?_, ?_, ?_, ?_, u2_s⟩
      · rw [u2_a (by decide), u2_a (by decide), u2_a (by decide), u2_a (by decide), u2_s]
      · rw [u2_a (by decide), u2_a (by decide), u2_a (by decide), u2_s]
      · rw [u2_k (by omega), u2_k (by omega), u2_s]
      · rw [u2_k (by omega), u2_s]
    · obtain ⟨a1, a2, a3, a4, a5⟩ := hv b (by omega)
      refine ⟨?_, ?_, ?_, ?_, ?_⟩
      · rw [u2_a (by decide), u2_a (by decide), u2_a (by decide), u2_a (by decide), u2_k e]; exact a1
      · rw [u2_a (by decide), u2_a (by decide), u2_a (by decide), u2_k e]; exact a2
      · rw [u2_k (by omega), u2_k (by omega), u2_k e, u2_a (by decide), u2_a (by decide)]; exact a3
      · rw [u2_k (by omega), u2_k (by omega), u2_k (by omega), u2_a (by decide), u2_a (by decide)]; exact a4
      · rw [u2_k (by omega), u2_k (by omega), u2_k (by omega), u2_a (by decide), u2_a (by decide)]; exact a5
set_option maxRecDepth 4000 in
theorem m_pap2 {X : zX} {mu : zmu} {nu : znu} {Q : zq} (d : Nat) (kk : ∀ mu9, Sq mu mu9 → mu9 68 = mu 68 → mu9 73 15 = nI 0 → zJ X M_X9_paper (d + 10) 0 0 113 [.ref 66, zu] [] 86 (zEE (mu9) (nu)) (zlift (Q))) : ∀ n i mu1, i + n = 16 → Sq mu mu1 → mu1 68 = mu 68 → (∀ k, k < i → mu1 73 k = nI 0) → zJ X M_X9_paper (d + 10) 0 0 94 [.ref 66, .int (nI i)] [] 86 (zEE (mu1) (nu)) (zlift (Q)) := by
  intro n
  induction n with
  | zero =>
    intro i mu1 hi
    intro hS h68 hv
    obtain rfl : i = 16 := by omega
    refine z_iload_n dX9_paper_94 rfl ?_
    refine z_bipush (v := nI 16) dX9_paper_95 rfl ?_
    refine zn_icmp_ge (tgt := 113) dX9_paper_97 (by decide) (by omega) (by omega) (fun hc97 => ?_) (fun hc97 => by exact absurd hc97 (Nat.lt_irrefl _))
    exact z_sub (kk mu1 hS h68 (hv 15 (by decide))) ⟨Or.inr rfl, Or.inl rfl, trivial⟩
  | succ n ih =>
    intro i mu1 hi
    intro hS h68 hv
    refine z_iload_n dX9_paper_94 rfl ?_
    refine z_bipush (v := nI 16) dX9_paper_95 rfl ?_
    refine zn_icmp_ge (tgt := 113) dX9_paper_97 (by decide) (by omega) (by omega) (fun hc97 => by omega) (fun hc97 => ?_)
    refine z_aload_n dX9_paper_100 rfl ?_
    refine y_getR dX9_paper_101 lf_X9_35 rfl rfl ?_
    refine z_iload_n dX9_paper_104 rfl ?_
    refine z_iconst (v := nI 0) dX9_paper_105 rfl ?_
    refine y_iast dX9_paper_106 rfl (by decide) (by omega) ?_
    refine zn_iinc1 dX9_paper_107 rfl ?_
    refine z_goto (tgt := 94) dX9_paper_110 (by decide) ?_
    refine ih (i + 1) _ (by omega) (Sq_tr hS (Sq_u (by omega))) (by rw [u2_rowa (by decide)]; exact h68) (fun k hk => ?_)
    by_cases e : k = i
    · rw [e, u2_s]
    · rw [u2_k e]; exact hv k (by omega)
set_option maxRecDepth 4000 in
theorem m_pap1 {X : zX} {mu : zmu} {nu : znu} {p : PT} (hp : PV p) (hL : LA p mu) {Q : zq} (d : Nat) (kk : ∀ mu9, Sq mu mu9 → (∀ c, c < pw p * ph p → mu9 68 c = nI (pK p c)) → zJ X M_X9_paper (d + 10) 0 0 92 [.ref 66, zu] [] 86 (zEE (mu9) (nu)) (zlift (Q))) : ∀ n i mu1, i + n = 20 → Sq mu mu1 → (∀ c, c < i → c < pw p * ph p → mu1 68 c = nI (pK p c)) → zJ X M_X9_paper (d + 10) 0 0 51 [.ref 66, .int (nI i)] [] 86 (zEE (mu1) (nu)) (zlift (Q)) := by
  intro n
  induction n with
  | zero =>
    intro i mu1 hi
    have h20 := hp.n20
    have h5 : pb p ≤ 5 := hp.2.2.2.2.2.1
    intro hS hv
    obtain rfl : i = 20 := by omega
    refine z_iload_n dX9_paper_51 rfl ?_
    refine z_bipush (v := nI 20) dX9_paper_52 rfl ?_
    refine zn_icmp_ge (tgt := 92) dX9_paper_54 (by decide) (by omega) (by omega) (fun hc54 => ?_) (fun hc54 => by exact absurd hc54 (Nat.lt_irrefl _))
    exact z_sub (kk mu1 hS (fun c hc => hv c (by omega) hc)) ⟨Or.inr rfl, Or.inl rfl, trivial⟩
  | succ n ih =>
    intro i mu1 hi
    have h20 := hp.n20
    have h5 : pb p ≤ 5 := hp.2.2.2.2.2.1
    intro hS hv
    have hL1 := LA_q hL hS
    refine z_iload_n dX9_paper_51 rfl ?_
    refine z_bipush (v := nI 20) dX9_paper_52 rfl ?_
    refine zn_icmp_ge (tgt := 92) dX9_paper_54 (by decide) (by omega) (by omega) (fun hc54 => by omega) (fun hc54 => ?_)
    refine z_aload_n dX9_paper_57 rfl ?_
    refine y_getR dX9_paper_58 lf_X9_20 rfl rfl ?_
    refine z_iload_n dX9_paper_61 rfl ?_
    refine z_iload_n dX9_paper_62 rfl ?_
    refine z_aload_n dX9_paper_63 rfl ?_
    refine y_getIe dX9_paper_64 lf_X9_13 rfl rfl hL1.1 ?_
    refine z_aload_n dX9_paper_67 rfl ?_
    refine y_getIe dX9_paper_68 lf_X9_17 rfl rfl hL1.2.1 ?_
    refine zn_imul dX9_paper_71 ?_
    refine zn_icmp_ge (tgt := 84) dX9_paper_72 (by decide) (by omega) (by omega) (fun hc72 => ?_) (fun hc72 => ?_)
    · refine z_iconst (v := nI 0) dX9_paper_84 rfl ?_
      refine y_iast dX9_paper_85 rfl (by decide) (by omega) ?_
      refine zn_iinc1 dX9_paper_86 rfl ?_
      refine z_goto (tgt := 51) dX9_paper_89 (by decide) ?_
      refine ih (i + 1) _ (by omega) (Sq_tr hS (Sq_u (by omega))) (fun c hc hcn => ?_)
      rw [u2_k (by omega)]; exact hv c (by omega) hcn
    · refine z_aload_n dX9_paper_75 rfl ?_
      refine y_getR dX9_paper_76 lf_X9_29 rfl rfl ?_
      refine z_iload_n dX9_paper_79 rfl ?_
      refine y_ialde dX9_paper_80 rfl (by decide) (by omega) (hL1.2.2.2.2.1 i hc72) ?_
      refine z_goto (tgt := 85) dX9_paper_81 (by decide) ?_
      refine y_iast dX9_paper_85 rfl (by decide) (by omega) ?_
      refine zn_iinc1 dX9_paper_86 rfl ?_
      refine z_goto (tgt := 51) dX9_paper_89 (by decide) ?_
      refine ih (i + 1) _ (by omega) (Sq_tr hS (Sq_u (by omega))) (fun c hc hcn => ?_)
      by_cases e : c = i
      · rw [e, u2_s]
      · rw [u2_k e]; exact hv c (by omega) hcn
set_option maxRecDepth 4000 in
theorem r_paper {X : zX} {mu : zmu} {nu : znu} {A : AS} (hA : AV A) (hC : MR A mu nu) (d : Nat) : zJ X M_X9_paper (d + 10) 0 0 0 [.ref 66, zu] [] 86 (zEE (mu) (nu)) (zlift (QM (f_paper A) mu nu)) := by
  refine z_aload_n dX9_paper_0 rfl ?_
  refine z_iconst (v := nI 0) dX9_paper_1 rfl ?_
  refine y_putI dX9_paper_2 lp_X9_75 rfl rfl ?_
  refine zJ_mono (Q := QM (f_paper A) (u2 mu 66 0 (nI 0)) nu) ?_ QM_th
  replace hC := MR_m hC (Sm_th (mu := mu) (v := nI 0)) rfl
  generalize u2 mu 66 0 (nI 0) = mu at hC ⊢
  obtain ⟨hM, hG, hB, hKe, hE, hT, hD⟩ := id hC
  refine z_aload_n dX9_paper_5 rfl ?_
  refine y_callV0 (M' := M_X9_readPaper) dX9_paper_6 lm_X9_125 cv_X9_readPaper rfl (Nat.le_of_ble_eq_true rfl) (Nat.le_of_ble_eq_true rfl) rfl (m_readPaper (T := (aT A).2) (len := (aT A).1) hT hA.2.2.2.2.2.1 hA.2.2.2.2.2.2 _) (fun r mu2 nu2 hq => ?_)
  obtain ⟨rfl, rfl, hS2, hcond⟩ := hq
  refine z_bipush (v := -9) dX9_paper_9 rfl ?_
  refine z_icmp_eq (tgt := 17) dX9_paper_11 (by decide) (fun hc11 => ?_) (fun hc11 => ?_)
  · have hfl : flt (aT A).2 (aT A).1 = -9 := hc11
    obtain ⟨hF2, hB2⟩ := hcond hfl
    have hp := patOf_V ((flt_pap hA.2.2.2.2.2.1).mp hfl)
    refine z_aload_n dX9_paper_17 rfl ?_
    refine z_aload_n dX9_paper_18 rfl ?_
    refine y_getIe dX9_paper_19 lf_X9_95 rfl rfl hF2.1 ?_
    refine y_putI dX9_paper_22 lp_X9_13 rfl rfl ?_
    refine z_aload_n dX9_paper_25 rfl ?_
    refine z_aload_n dX9_paper_26 rfl ?_
    refine y_getIe dX9_paper_27 lf_X9_98 rfl rfl ((u2_k (by decide)).trans hF2.2.1) ?_
    refine y_putI dX9_paper_30 lp_X9_17 rfl rfl ?_
    refine z_aload_n dX9_paper_33 rfl ?_
    refine z_aload_n dX9_paper_34 rfl ?_
    refine y_getIe dX9_paper_35 lf_X9_112 rfl rfl ((u2_k (by decide)).trans ((u2_k (by decide)).trans hF2.2.2.1)) ?_
    refine y_putI dX9_paper_38 lp_X9_128 rfl rfl ?_
    refine z_aload_n dX9_paper_41 rfl ?_
    refine z_aload_n dX9_paper_42 rfl ?_
    refine y_getIe dX9_paper_43 lf_X9_101 rfl rfl ((u2_k (by decide)).trans ((u2_k (by decide)).trans ((u2_k (by decide)).trans hB2.1))) ?_
    refine y_putI dX9_paper_46 lp_X9_78 rfl rfl ?_
    refine z_iconst (v := nI 0) dX9_paper_49 rfl ?_
    refine z_istore1 dX9_paper_50 rfl ?_
    show zJ X M_X9_paper (d + 10) 0 0 51 _ _ 86 (zEE (u2 (u2 (u2 (u2 mu2 66 4 (nI (pw (patOf (aT A).2 (aT A).1)))) 66 5 (nI (ph (patOf (aT A).2 (aT A).1)))) 66 6 (nI (pd (patOf (aT A).2 (aT A).1)))) 66 8 (nI (pb (patOf (aT A).2 (aT A).1)))) _) _
    have hL : LA (patOf (aT A).2 (aT A).1) (u2 (u2 (u2 (u2 mu2 66 4 (nI (pw (patOf (aT A).2 (aT A).1)))) 66 5 (nI (ph (patOf (aT A).2 (aT A).1)))) 66 6 (nI (pd (patOf (aT A).2 (aT A).1)))) 66 8 (nI (pb (patOf (aT A).2 (aT A).1)))) := by
      refine ⟨?_, ?_, ?_, u2_s, fun c hc => ?_, fun b hb => ?_⟩
      · rw [u2_k (by decide), u2_k (by decide), u2_k (by decide), u2_s]
      · rw [u2_k (by decide), u2_k (by decide), u2_s]
      · rw [u2_k (by decide), u2_s]
      · rw [u2_a (by decide), u2_a (by decide), u2_a (by decide), u2_a (by decide)]; exact (hF2.2.2.2 c hc).2
      · rw [u2_a (by decide), u2_a (by decide), u2_a (by decide), u2_a (by decide), u2_a (by decide), u2_a (by decide), u2_a (by decide), u2_a (by decide)]; exact hB2.2 b hb
    refine m_pap1 hp hL d (fun mu7 hS7 hv68 => ?_) 20 0 _ (by omega) Sq_rf (fun c hc => absurd hc (Nat.not_lt_zero _))
    refine z_iconst (v := nI 0) dX9_paper_92 rfl ?_
    refine z_istore1 dX9_paper_93 rfl ?_
    refine m_pap2 d (fun mu8 hS8 e68b e15b => ?_) 16 0 _ (by omega) Sq_rf rfl (fun c hc => absurd hc (Nat.not_lt_zero _))
    refine z_iconst (v := nI 0) dX9_paper_113 rfl ?_
    refine z_istore1 dX9_paper_114 rfl ?_
    refine m_pap3 hp (LA_q hL (Sq_tr hS7 hS8)) d (fun mu9 hS9 e68a hv3 e15a => ?_) _ 0 _ (Nat.zero_add _) Sq_rf rfl (fun c hc => absurd hc (Nat.not_lt_zero _)) rfl
    have hL9 := LA_q hL (Sq_tr hS7 (Sq_tr hS8 hS9))
    have hSq := Sq_tr hS7 (Sq_tr hS8 hS9)
    have hw9 : (u2 (u2 (u2 mu9 66 20 (nI 0)) 77 0 (nI 0)) 77 1 (nI 0)) 66 4 = nI (pw (patOf (aT A).2 (aT A).1)) ∧ (u2 (u2 (u2 mu9 66 20 (nI 0)) 77 0 (nI 0)) 77 1 (nI 0)) 66 5 = nI (ph (patOf (aT A).2 (aT A).1)) ∧ (u2 (u2 (u2 mu9 66 20 (nI 0)) 77 0 (nI 0)) 77 1 (nI 0)) 66 8 = nI (pb (patOf (aT A).2 (aT A).1)) ∧ (u2 (u2 (u2 mu9 66 20 (nI 0)) 77 0 (nI 0)) 77 1 (nI 0)) 66 6 = nI (pd (patOf (aT A).2 (aT A).1)) := by
      rw [u2_a (by decide), u2_a (by decide), u2_k (by decide), u2_a (by decide), u2_a (by decide), u2_k (by decide), u2_a (by decide), u2_a (by decide), u2_k (by decide), u2_a (by decide), u2_a (by decide), u2_k (by decide)]
      exact ⟨hL9.1, hL9.2.1, hL9.2.2.2.1, hL9.2.2.1⟩
    have hlv : ∀ a j, a = 66 → (j = 2 ∨ j = 23) → (u2 (u2 (u2 mu9 66 20 (nI 0)) 77 0 (nI 0)) 77 1 (nI 0)) a j = mu a j := fun a j e1 e2 => by
      subst e1
      rw [u2_a (by decide), u2_a (by decide), u2_k (by omega), hSq 66 (by decide) (by decide) (by decide) (by decide), u2_k (by omega), u2_k (by omega), u2_k (by omega), u2_k (by omega)]
      exact hS2 66 j (by unfold live; omega)
    have hrow : ∀ a, (a < 66 ∨ a = 67 ∨ a = 78 ∨ a = 79 ∨ a = 80) → (u2 (u2 (u2 mu9 66 20 (nI 0)) 77 0 (nI 0)) 77 1 (nI 0)) a = mu a := fun a ha => by
      rw [u2_rowa (by omega), u2_rowa (by omega), u2_rowa (by omega), hSq a (by omega) (by omega) (by omega) (by omega), u2_rowa (by omega), u2_rowa (by omega), u2_rowa (by omega), u2_rowa (by omega)]
      exact Sm_row hS2 (by omega)
    refine z_aload_n dX9_paper_190 rfl ?_
    refine z_iconst (v := nI 0) dX9_paper_191 rfl ?_
    refine y_putI dX9_paper_192 lp_X9_131 rfl rfl ?_
    refine z_aload_n dX9_paper_195 rfl ?_
    refine y_getR dX9_paper_196 lf_X9_47 rfl rfl ?_
    refine z_iconst (v := nI 0) dX9_paper_199 rfl ?_
    refine z_iconst (v := nI 0) dX9_paper_200 rfl ?_
    refine y_zast dX9_paper_201 rfl (by decide) (by decide) (by first | exact Or.inl rfl | exact Or.inr rfl) ?_
    refine z_aload_n dX9_paper_202 rfl ?_
    refine y_getR dX9_paper_203 lf_X9_47 rfl rfl ?_
    refine z_iconst (v := nI 1) dX9_paper_206 rfl ?_
    refine z_iconst (v := nI 0) dX9_paper_207 rfl ?_
    refine y_zast dX9_paper_208 rfl (by decide) (by decide) (by first | exact Or.inl rfl | exact Or.inr rfl) ?_
    refine z_bipush (v := nI 100) dX9_paper_209 rfl ?_
    refine z_aload_n dX9_paper_211 rfl ?_
    refine y_getIe dX9_paper_212 lf_X9_13 rfl rfl hw9.1 ?_
    refine zn_imul dX9_paper_215 ?_
    refine z_bipush (v := nI 10) dX9_paper_216 rfl ?_
    refine z_aload_n dX9_paper_218 rfl ?_
    refine y_getIe dX9_paper_219 lf_X9_17 rfl rfl hw9.2.1 ?_
    refine zn_imul dX9_paper_222 ?_
    refine zn_iadd dX9_paper_223 ?_
    refine z_aload_n dX9_paper_224 rfl ?_
    refine y_getIe dX9_paper_225 lf_X9_78 rfl rfl hw9.2.2.1 ?_
    refine zn_iadd dX9_paper_228 ?_
    exact y_ireturn dX9_paper_229 rfl (by
        refine QM_of (A' := newP A (patOf (aT A).2 (aT A).1)) (by rw [f_paper, if_pos hfl]) ?_ ?_
        · refine ⟨⟨hw9.1, hw9.2.1, hw9.2.2.2, hw9.2.2.1, fun c hc => ?_, fun b hb => ?_⟩, ⟨fun b hb => ?_, ?_⟩, ⟨?_, fun i hi => absurd hi (Nat.not_lt_zero _)⟩, fun i hi => ?_, ?_, ?_, hD⟩
          · rw [u2_a (by decide), u2_a (by decide), u2_a (by decide), e68a, e68b]; exact hv68 c hc
          · rw [u2_a (by decide), u2_a (by decide), u2_a (by decide), u2_a (by decide), u2_a (by decide), u2_a (by decide)]; exact ⟨(hv3 b hb).1, (hv3 b hb).2.1⟩
          · rw [u2_a (by decide), u2_a (by decide), u2_a (by decide), u2_a (by decide), u2_a (by decide), u2_a (by decide), u2_a (by decide), u2_a (by decide), u2_a (by decide)]
            have hbl := (hp.2.2.2.2.2.2.2 b hb).1
            have h20 := hp.n20
            refine ⟨(hv3 b hb).2.2.1.trans (congrArg nI ?_), (hv3 b hb).2.2.2.1.trans (congrArg nI ?_), (hv3 b hb).2.2.2.2.trans (congrArg nI ?_)⟩
            · show _ = (480 + pH (patOf (aT A).2 (aT A).1) b) % 20; omega
            · show _ = (480 + pH (patOf (aT A).2 (aT A).1) b) / 20 % 7; omega
            · show _ = (480 + pH (patOf (aT A).2 (aT A).1) b) / 140; omega
          · rw [u2_a (by decide), u2_a (by decide), u2_a (by decide), e15a, e15b]; rfl
          · rw [u2_a (by decide), u2_a (by decide), u2_s]; rfl
          · show _ = (0 : Int32)
            obtain rfl | rfl : i = 0 ∨ i = 1 := by omega
            · rw [u2_k (by decide), u2_s]; rfl
            · rw [u2_s]; rfl
          · exact SM_e hE (hlv 66 23 (by omega) (by omega)) (hrow 78 (by omega)) (hrow 79 (by omega)) (hrow 80 (by omega))
          · exact TM_e hT (hlv 66 2 (by omega) (by omega)) (hrow 67 (by omega))
        · exact ⟨fun a ha => hrow a (by omega), rfl⟩)
  · refine z_bipush (v := -3) dX9_paper_14 rfl ?_
    exact y_ireturn dX9_paper_16 rfl (QM_m hC hS2 (by rw [f_paper, if_neg hc11]))
