theorem in_01 {x : Int32} : decide ((0 : Int64) ≤ x.toInt64 ∧ x.toInt64 ≤ 1) = inr x 2 := in_c (m := 1) (by decide)
theorem MR_s {A : AS} {mu mu1 : zmu} {nu : znu} (h : MR A mu nu) (e : Sm mu mu1) : MR A mu1 nu := MR_m h e rfl
theorem inr2_f {x : Int32} (h : inr x 2 = false) : ¬ x = 0 ∧ ¬ x = nI 1 := by
  constructor
  · rintro rfl; exact absurd h (by decide)
  · rintro rfl; exact absurd h (by decide)
theorem inr2_t {x : Int32} (h : inr x 2 = true) : x = 0 ∨ x = nI 1 := by
  obtain ⟨b, hb, rfl⟩ := inr_t h (by decide)
  obtain rfl | rfl : b = 0 ∨ b = 1 := by omega
  · exact Or.inl rfl
  · exact Or.inr rfl
theorem MR_text {A : AS} {mu mu1 : zmu} {nu : znu} {t : Nat × (Nat → Nat)} (h : MR A mu nu) (hT : TM t mu1) (e : ∀ a, a ≠ 66 → a ≠ 67 → mu1 a = mu a) (e2 : ∀ j, j ≠ 2 → mu1 66 j = mu 66 j) : MR (setT A t) mu1 nu ∧ FrM mu nu mu1 nu := by
  obtain ⟨h1, h2, h3, h4, h5, h6, h7⟩ := h
  refine ⟨⟨?_, PG_e h2 (e 73 (by decide) (by decide)), BK_e h3 (e2 20 (by decide)) (e 75 (by decide) (by decide)), KM_e h4 (e 76 (by decide) (by decide)) (e 77 (by decide) (by decide)), SM_e h5 (e2 23 (by decide)) (e 78 (by decide) (by decide)) (e 79 (by decide) (by decide)) (e 80 (by decide) (by decide)), hT, h7⟩, fun a ha => e a (by omega) (by omega), rfl⟩
  show PM (aP A) mu1
  unfold PM at *
  rw [e2 4 (by decide), e2 5 (by decide), e2 6 (by decide), e2 8 (by decide), e 68 (by decide) (by decide), e 69 (by decide) (by decide), e 70 (by decide) (by decide)]
  exact h1
set_option maxRecDepth 4000 in
theorem r_write {X : zX} {mu : zmu} {nu : znu} {A : AS} (hA : AV A) (hC : MR A mu nu) (x : Int32) (d : Nat) : zJ X M_X9_write (d + 10) 0 0 0 [.ref 66, .int x] [] 86 (zEE (mu) (nu)) (zlift (QM (f_write A x) mu nu)) := by
  have hp := hA.1
  have hV := hA.2.1
  have h20 : pw (aP A) * ph (aP A) ≤ 20 := hA.n
  have h5 := hA.b
  have h48 := hA.2.2.2.2.2.1
  refine z_aload_n dX9_write_0 rfl ?_
  refine z_iconst (v := nI 0) dX9_write_1 rfl ?_
  refine y_putI dX9_write_2 lp_X9_75 rfl rfl ?_
  refine zJ_mono (Q := QM (f_write A x) (u2 mu 66 0 (nI 0)) nu) ?_ QM_th
  replace hC := MR_m hC (Sm_th (mu := mu) (v := nI 0)) rfl
  generalize u2 mu 66 0 (nI 0) = mu at hC ⊢
  obtain ⟨hM, hG, hB, hKe, hE, hT, hD⟩ := id hC
  refine z_iload_n dX9_write_5 rfl ?_
  refine z_i2l dX9_write_6 ?_
  refine z_lconst (v := 0) dX9_write_7 rfl ?_
  refine z_ldc2 (v := nL 255) dX9_write_8 lk_X9_87 ?_
  refine y_callS3x (M' := M_X9_in) dX9_write_11 lm_X9_81 cs_X9_in (Nat.le_of_ble_eq_true rfl) (Nat.le_of_ble_eq_true rfl) rfl (m_in _ _ _ _) ?_
  rw [in_c (m := 255) (by decide)]
  refine zb_if_ne (tgt := 20) dX9_write_14 (by decide) (fun hc14 => ?_) (fun hc14 => ?_)
  · have g : inr x 256 = true := hc14
    obtain ⟨t, ht, rfl⟩ := inr_t g (by decide)
    refine z_aload_n dX9_write_20 rfl ?_
    refine y_getIe dX9_write_21 lf_X9_89 rfl rfl hT.1 ?_
    refine z_bipush (v := nI 48) dX9_write_24 rfl ?_
    refine zn_icmp_ne (tgt := 32) dX9_write_26 (by decide) (by omega) (by omega) (fun hc26 => ?_) (fun hc26 => ?_)
    · have hl : (aT A).1 < 48 := by omega
      refine z_aload_n dX9_write_32 rfl ?_
      refine y_getR dX9_write_33 lf_X9_7 rfl rfl ?_
      refine z_aload_n dX9_write_36 rfl ?_
      refine y_getIe dX9_write_37 lf_X9_89 rfl rfl hT.1 ?_
      refine z_iload_n dX9_write_40 rfl ?_
      refine y_iast dX9_write_41 rfl (by decide) (by omega) ?_
      refine z_aload_n dX9_write_42 rfl ?_
      refine z_dup dX9_write_43 rfl ?_
      refine y_getIe dX9_write_44 lf_X9_89 rfl rfl ((u2_a (by decide)).trans hT.1) ?_
      refine z_iconst (v := nI 1) dX9_write_47 rfl ?_
      refine zn_iadd dX9_write_48 ?_
      refine y_putI dX9_write_49 lp_X9_89 rfl rfl ?_
      refine z_aload_n dX9_write_52 rfl ?_
      refine y_getIe dX9_write_53 lf_X9_89 rfl rfl u2_s ?_
      exact y_ireturn dX9_write_56 rfl (by
            have hr := MR_text (mu1 := u2 (u2 mu 67 (aT A).1 (nI t)) 66 2 (nI ((aT A).1 + 1))) (t := ((aT A).1 + 1, fun i => if i = (aT A).1 then ix (nI t) else (aT A).2 i)) hC ⟨u2_s, fun i hi => ?_⟩ (fun a h1 h2 => by rw [u2_rowa h1, u2_rowa h2]) (fun j hj => by rw [u2_k hj, u2_rowa (by decide)])
            · exact QM_of (by simp [f_write, g, hl]) hr.1 hr.2
            · have hi : i < (aT A).1 + 1 := hi
              show u2 (u2 mu 67 (aT A).1 (nI t)) 66 2 (nI ((aT A).1 + 1)) 67 i = nI (if i = (aT A).1 then ix (nI t) else (aT A).2 i)
              rw [u2_a (by decide), ix_nI (by omega)]
              by_cases hi2 : i = (aT A).1
              · rw [hi2, u2_s, if_pos rfl]
              · rw [u2_k hi2, if_neg hi2]; exact hT.2 i (by omega))
    · have hl : ¬ (aT A).1 < 48 := by omega
      refine z_bipush (v := -4) dX9_write_29 rfl ?_
      exact y_ireturn dX9_write_31 rfl (QM_rf hC (by simp [f_write, g, hl]))
  · have g : inr x 256 = false := hc14
    refine z_bipush (v := -2) dX9_write_17 rfl ?_
    exact y_ireturn dX9_write_19 rfl (QM_rf hC (by simp [f_write, g]))
set_option maxRecDepth 4000 in
theorem r_wipe {X : zX} {mu : zmu} {nu : znu} {A : AS} (hA : AV A) (hC : MR A mu nu) (d : Nat) : zJ X M_X9_wipe (d + 10) 0 0 0 [.ref 66, zu] [] 86 (zEE (mu) (nu)) (zlift (QM (f_wipe A) mu nu)) := by
  refine z_aload_n dX9_wipe_0 rfl ?_
  refine z_iconst (v := nI 0) dX9_wipe_1 rfl ?_
  refine y_putI dX9_wipe_2 lp_X9_75 rfl rfl ?_
  refine zJ_mono (Q := QM (f_wipe A) (u2 mu 66 0 (nI 0)) nu) ?_ QM_th
  replace hC := MR_m hC (Sm_th (mu := mu) (v := nI 0)) rfl
  generalize u2 mu 66 0 (nI 0) = mu at hC ⊢
  obtain ⟨hM, hG, hB, hKe, hE, hT, hD⟩ := id hC
  refine z_aload_n dX9_wipe_5 rfl ?_
  refine y_getIe dX9_wipe_6 lf_X9_89 rfl rfl hT.1 ?_
  refine z_istore1 dX9_wipe_9 rfl ?_
  refine z_aload_n dX9_wipe_10 rfl ?_
  refine z_iconst (v := nI 0) dX9_wipe_11 rfl ?_
  refine y_putI dX9_wipe_12 lp_X9_89 rfl rfl ?_
  refine z_iload_n dX9_wipe_15 rfl ?_
  exact y_ireturn dX9_wipe_16 rfl (by have hr := MR_text (mu1 := u2 mu 66 2 (nI 0)) (t := (0, (aT A).2)) hC ⟨u2_s, fun i hi => absurd hi (Nat.not_lt_zero _)⟩ (fun a h1 h2 => u2_rowa h1) (fun j hj => u2_k hj); exact QM_of rfl hr.1 hr.2)
set_option maxRecDepth 4000 in
theorem r_about {X : zX} {mu : zmu} {nu : znu} {A : AS} (hA : AV A) (hC : MR A mu nu) (x : Int32) (d : Nat) : zJ X M_X9_about (d + 10) 0 0 0 [.ref 66, .int x] [] 86 (zEE (mu) (nu)) (zlift (QM (f_about A x) mu nu)) := by
  have hp := hA.1
  have hV := hA.2.1
  have h20 : pw (aP A) * ph (aP A) ≤ 20 := hA.n
  have h5 := hA.b
  refine z_aload_n dX9_about_0 rfl ?_
  refine z_iconst (v := nI 0) dX9_about_1 rfl ?_
  refine y_putI dX9_about_2 lp_X9_75 rfl rfl ?_
  refine zJ_mono (Q := QM (f_about A x) (u2 mu 66 0 (nI 0)) nu) ?_ QM_th
  replace hC := MR_m hC (Sm_th (mu := mu) (v := nI 0)) rfl
  generalize u2 mu 66 0 (nI 0) = mu at hC ⊢
  obtain ⟨hM, hG, hB, hKe, hE, hT, hD⟩ := id hC
  refine z_iload_n dX9_about_5 rfl ?_
  by_cases g : inr x 11 = true
  · obtain ⟨k, hk, rfl⟩ := inr_t g (by decide)
    obtain rfl | rfl | rfl | rfl | rfl | rfl | rfl | rfl | rfl | rfl | rfl : k = 0 ∨ k = 1 ∨ k = 2 ∨ k = 3 ∨ k = 4 ∨ k = 5 ∨ k = 6 ∨ k = 7 ∨ k = 8 ∨ k = 9 ∨ k = 10 := by omega
    · refine z_tableIn (off := 58) (tgt := 64) dX9_about_6 (by decide) (by decide) rfl (by decide) ?_
      refine z_aload_n dX9_about_64 rfl ?_
      refine y_getIe dX9_about_65 lf_X9_13 rfl rfl hM.1 ?_
      exact y_ireturn dX9_about_68 rfl (QM_rf hC (by simp [f_about, g, abt, ix_nI, an]))
    · refine z_tableIn (off := 63) (tgt := 69) dX9_about_6 (by decide) (by decide) rfl (by decide) ?_
      refine z_aload_n dX9_about_69 rfl ?_
      refine y_getIe dX9_about_70 lf_X9_17 rfl rfl hM.2.1 ?_
      exact y_ireturn dX9_about_73 rfl (QM_rf hC (by simp [f_about, g, abt, ix_nI, an]))
    · refine z_tableIn (off := 68) (tgt := 74) dX9_about_6 (by decide) (by decide) rfl (by decide) ?_
      refine z_aload_n dX9_about_74 rfl ?_
      refine y_getIe dX9_about_75 lf_X9_128 rfl rfl hM.2.2.1 ?_
      exact y_ireturn dX9_about_78 rfl (QM_rf hC (by simp [f_about, g, abt, ix_nI, an]))
    · refine z_tableIn (off := 73) (tgt := 79) dX9_about_6 (by decide) (by decide) rfl (by decide) ?_
      refine z_aload_n dX9_about_79 rfl ?_
      refine y_getIe dX9_about_80 lf_X9_78 rfl rfl hM.2.2.2.1 ?_
      exact y_ireturn dX9_about_83 rfl (QM_rf hC (by simp [f_about, g, abt, ix_nI, an]))
    · refine z_tableIn (off := 78) (tgt := 84) dX9_about_6 (by decide) (by decide) rfl (by decide) ?_
      refine z_aload_n dX9_about_84 rfl ?_
      refine z_iload_n dX9_about_85 rfl ?_
      refine z_iconst (v := nI 3) dX9_about_86 rfl ?_
      refine zn_isub dX9_about_87 (by omega) ?_
      refine y_callV1x (M' := M_X9_cellsOf) dX9_about_88 lm_X9_174 cv_X9_cellsOf rfl (Nat.le_of_ble_eq_true rfl) (Nat.le_of_ble_eq_true rfl) rfl (m_cellsOf hp hM hG hV (k := 1) (by decide) _) ?_
      exact y_ireturn dX9_about_91 rfl (QM_rf hC (by simp [f_about, g, abt, ix_nI, an]))
    · refine z_tableIn (off := 78) (tgt := 84) dX9_about_6 (by decide) (by decide) rfl (by decide) ?_
      refine z_aload_n dX9_about_84 rfl ?_
      refine z_iload_n dX9_about_85 rfl ?_
      refine z_iconst (v := nI 3) dX9_about_86 rfl ?_
      refine zn_isub dX9_about_87 (by omega) ?_
      refine y_callV1x (M' := M_X9_cellsOf) dX9_about_88 lm_X9_174 cv_X9_cellsOf rfl (Nat.le_of_ble_eq_true rfl) (Nat.le_of_ble_eq_true rfl) rfl (m_cellsOf hp hM hG hV (k := 2) (by decide) _) ?_
      exact y_ireturn dX9_about_91 rfl (QM_rf hC (by simp [f_about, g, abt, ix_nI, an]))
    · refine z_tableIn (off := 78) (tgt := 84) dX9_about_6 (by decide) (by decide) rfl (by decide) ?_
      refine z_aload_n dX9_about_84 rfl ?_
      refine z_iload_n dX9_about_85 rfl ?_
      refine z_iconst (v := nI 3) dX9_about_86 rfl ?_
      refine zn_isub dX9_about_87 (by omega) ?_
      refine y_callV1x (M' := M_X9_cellsOf) dX9_about_88 lm_X9_174 cv_X9_cellsOf rfl (Nat.le_of_ble_eq_true rfl) (Nat.le_of_ble_eq_true rfl) rfl (m_cellsOf hp hM hG hV (k := 3) (by decide) _) ?_
      exact y_ireturn dX9_about_91 rfl (QM_rf hC (by simp [f_about, g, abt, ix_nI, an]))
    · refine z_tableIn (off := 86) (tgt := 92) dX9_about_6 (by decide) (by decide) rfl (by decide) ?_
      refine z_aload_n dX9_about_92 rfl ?_
      refine z_aload_n dX9_about_93 rfl ?_
      refine y_getR dX9_about_94 lf_X9_35 rfl rfl ?_
      refine y_callV1x (M' := M_X9_homes) dX9_about_97 lm_X9_166 cv_X9_homes rfl (Nat.le_of_ble_eq_true rfl) (Nat.le_of_ble_eq_true rfl) rfl (m_homes hp hM p73 hG hV _) ?_
      exact y_ireturn dX9_about_100 rfl (QM_rf hC (by simp [f_about, g, abt, ix_nI, an]))
    · refine z_tableIn (off := 95) (tgt := 101) dX9_about_6 (by decide) (by decide) rfl (by decide) ?_
      refine z_aload_n dX9_about_101 rfl ?_
      refine y_getIe dX9_about_102 lf_X9_131 rfl rfl hB.1 ?_
      exact y_ireturn dX9_about_105 rfl (QM_rf hC (by simp [f_about, g, abt, ix_nI, an]))
    · refine z_tableIn (off := 100) (tgt := 106) dX9_about_6 (by decide) (by decide) rfl (by decide) ?_
      refine z_aload_n dX9_about_106 rfl ?_
      refine y_getIe dX9_about_107 lf_X9_177 rfl rfl hE.1 ?_
      exact y_ireturn dX9_about_110 rfl (QM_rf hC (by simp [f_about, g, abt, ix_nI, an]))
    · refine z_tableIn (off := 105) (tgt := 111) dX9_about_6 (by decide) (by decide) rfl (by decide) ?_
      refine z_aload_n dX9_about_111 rfl ?_
      refine y_getIe dX9_about_112 lf_X9_89 rfl rfl hT.1 ?_
      exact y_ireturn dX9_about_115 rfl (QM_rf hC (by simp [f_about, g, abt, ix_nI, an]))
  · have hx : x.toInt < 0 ∨ 10 < x.toInt := by
      rcases Int.lt_or_le x.toInt 0 with h | h
      · exact Or.inl h
      · right
        rcases Int.lt_or_le 10 x.toInt with h2 | h2
        · exact h2
        · exfalso
          exact g (decide_eq_true ⟨by rw [Int32.le_iff_toInt_le]; simpa using h, by rw [Int32.lt_iff_toInt_lt, show (nI 11).toInt = 11 by decide]; omega⟩)
    refine z_tableOut (tgt := 116) dX9_about_6 hx (by decide) ?_
    refine z_bipush (v := -2) dX9_about_116 rfl ?_
    exact y_ireturn dX9_about_118 rfl (QM_rf hC (by simp [f_about, g]))
set_option maxRecDepth 4000 in
theorem r_cell {X : zX} {mu : zmu} {nu : znu} {A : AS} (hA : AV A) (hC : MR A mu nu) (x : Int32) (d : Nat) : zJ X M_X9_cell (d + 10) 0 0 0 [.ref 66, .int x] [] 86 (zEE (mu) (nu)) (zlift (QM (f_cell A x) mu nu)) := by
  have hp := hA.1
  have hV := hA.2.1
  have h20 : pw (aP A) * ph (aP A) ≤ 20 := hA.n
  have h5 := hA.b
  refine z_aload_n dX9_cell_0 rfl ?_
  refine z_iconst (v := nI 0) dX9_cell_1 rfl ?_
  refine y_putI dX9_cell_2 lp_X9_75 rfl rfl ?_
  refine zJ_mono (Q := QM (f_cell A x) (u2 mu 66 0 (nI 0)) nu) ?_ QM_th
  replace hC := MR_m hC (Sm_th (mu := mu) (v := nI 0)) rfl
  generalize u2 mu 66 0 (nI 0) = mu at hC ⊢
  obtain ⟨hM, hG, hB, hKe, hE, hT, hD⟩ := id hC
  refine z_aload_n dX9_cell_5 rfl ?_
  refine z_iload_n dX9_cell_6 rfl ?_
  refine y_callV1x (M' := M_X9_noCell) dX9_cell_7 lm_X9_180 cv_X9_noCell rfl (Nat.le_of_ble_eq_true rfl) (Nat.le_of_ble_eq_true rfl) rfl (m_noCell hp hM x _) ?_
  refine zb_if_eq (tgt := 17) dX9_cell_10 (by decide) (fun hc10 => ?_) (fun hc10 => ?_)
  · have g0 : inr x (pw (aP A) * ph (aP A)) = true := by simpa using hc10
    have g : inr x (an A) = true := g0
    obtain ⟨c, hc, rfl⟩ := inr_t (show inr x (pw (aP A) * ph (aP A)) = true from g) (by omega)
    refine z_aload_n dX9_cell_17 rfl ?_
    refine z_aload_n dX9_cell_18 rfl ?_
    refine y_getR dX9_cell_19 lf_X9_35 rfl rfl ?_
    refine z_iload_n dX9_cell_22 rfl ?_
    refine y_callV2x (M' := M_X9_kindOf) dX9_cell_23 lm_X9_144 cv_X9_kindOf rfl (Nat.le_of_ble_eq_true rfl) (Nat.le_of_ble_eq_true rfl) rfl (m_kindOf hp hM p73 hG hV hc _) ?_
    exact y_ireturn dX9_cell_26 rfl (QM_rf hC (by simp [f_cell, g, ix_nI (show c < 2 ^ 31 by omega)]))
  · have g0 : inr x (pw (aP A) * ph (aP A)) = false := by simpa using hc10
    have g : inr x (an A) = false := g0
    refine z_iconst (v := -1) dX9_cell_13 rfl ?_
    refine z_goto (tgt := 26) dX9_cell_14 (by decide) ?_
    exact y_ireturn dX9_cell_26 rfl (QM_rf hC (by simp [f_cell, g]))
set_option maxRecDepth 4000 in
theorem r_beside {X : zX} {mu : zmu} {nu : znu} {A : AS} (hA : AV A) (hC : MR A mu nu) (x y : Int32) (s : Bool) (d : Nat) : zJ X M_X9_beside (d + 10) 0 0 0 [.ref 66, .int x, .int y, .int (b2i s)] [] 86 (zEE (mu) (nu)) (zlift (QM (f_beside A x y s) mu nu)) := by
  have hp := hA.1
  have hV := hA.2.1
  have h20 : pw (aP A) * ph (aP A) ≤ 20 := hA.n
  have h5 := hA.b
  refine z_aload_n dX9_beside_0 rfl ?_
  refine z_iconst (v := nI 0) dX9_beside_1 rfl ?_
  refine y_putI dX9_beside_2 lp_X9_75 rfl rfl ?_
  refine zJ_mono (Q := QM (f_beside A x y s) (u2 mu 66 0 (nI 0)) nu) ?_ QM_th
  replace hC := MR_m hC (Sm_th (mu := mu) (v := nI 0)) rfl
  generalize u2 mu 66 0 (nI 0) = mu at hC ⊢
  obtain ⟨hM, hG, hB, hKe, hE, hT, hD⟩ := id hC
  refine z_aload_n dX9_beside_5 rfl ?_
  refine z_iload_n dX9_beside_6 rfl ?_
  refine y_callV1x (M' := M_X9_noCell) dX9_beside_7 lm_X9_180 cv_X9_noCell rfl (Nat.le_of_ble_eq_true rfl) (Nat.le_of_ble_eq_true rfl) rfl (m_noCell hp hM x _) ?_
  refine zb_if_eq (tgt := 15) dX9_beside_10 (by decide) (fun hc10 => ?_) (fun hc10 => ?_)
  · have g0 : inr x (pw (aP A) * ph (aP A)) = true := by simpa using hc10
    have g : inr x (an A) = true := g0
    obtain ⟨c, hc, rfl⟩ := inr_t (show inr x (pw (aP A) * ph (aP A)) = true from g) (by omega)
    refine z_iload_n dX9_beside_15 rfl ?_
    refine y_callS1x (M' := M_X9_noWay) dX9_beside_16 lm_X9_184 cs_X9_noWay (Nat.le_of_ble_eq_true rfl) (Nat.le_of_ble_eq_true rfl) rfl (m_noWay y _) ?_
    refine zb_if_eq (tgt := 27) dX9_beside_19 (by decide) (fun hc19 => ?_) (fun hc19 => ?_)
    · have g2 : inr y 4 = true := by simpa using hc19
      obtain ⟨w, hw, rfl⟩ := inr_t (show inr y (4) = true from g2) (by omega)
      refine z_aload_n dX9_beside_27 rfl ?_
      refine z_iload_n dX9_beside_28 rfl ?_
      refine z_iload_n dX9_beside_29 rfl ?_
      refine z_iload_n dX9_beside_30 rfl ?_
      refine y_callV3 (M' := M_X9_cellBeside) dX9_beside_31 lm_X9_187 cv_X9_cellBeside rfl (Nat.le_of_ble_eq_true rfl) (Nat.le_of_ble_eq_true rfl) rfl (m_cellBeside hp hM hc hw s _) (fun r mu1 nu1 hq => ?_)
      obtain ⟨rfl, rfl, hS⟩ := hq
      exact y_ireturn dX9_beside_34 rfl (QM_m hC (Sm_S hS) (by simp [f_beside, g, g2, ix_nI (show c < 2 ^ 31 by omega), ix_nI (show w < 2 ^ 31 by omega)]))
    · have g2 : inr y 4 = false := by simpa using hc19
      refine z_bipush (v := -2) dX9_beside_22 rfl ?_
      refine z_goto (tgt := 34) dX9_beside_24 (by decide) ?_
      exact y_ireturn dX9_beside_34 rfl (QM_rf hC (by simp [f_beside, g, g2]))
  · have g0 : inr x (pw (aP A) * ph (aP A)) = false := by simpa using hc10
    have g : inr x (an A) = false := g0
    refine z_iconst (v := -1) dX9_beside_13 rfl ?_
    exact y_ireturn dX9_beside_14 rfl (QM_rf hC (by simp [f_beside, g]))
set_option maxRecDepth 4000 in
theorem r_boy {X : zX} {mu : zmu} {nu : znu} {A : AS} (hA : AV A) (hC : MR A mu nu) (x k : Int32) (d : Nat) : zJ X M_X9_boy (d + 10) 0 0 0 [.ref 66, .int x, .int k] [] 86 (zEE (mu) (nu)) (zlift (QM (f_boy A x k) mu nu)) := by
  have hp := hA.1
  have hV := hA.2.1
  have h20 : pw (aP A) * ph (aP A) ≤ 20 := hA.n
  have h5 := hA.b
  refine z_aload_n dX9_boy_0 rfl ?_
  refine z_iconst (v := nI 0) dX9_boy_1 rfl ?_
  refine y_putI dX9_boy_2 lp_X9_75 rfl rfl ?_
  refine zJ_mono (Q := QM (f_boy A x k) (u2 mu 66 0 (nI 0)) nu) ?_ QM_th
  replace hC := MR_m hC (Sm_th (mu := mu) (v := nI 0)) rfl
  generalize u2 mu 66 0 (nI 0) = mu at hC ⊢
  obtain ⟨hM, hG, hB, hKe, hE, hT, hD⟩ := id hC
  refine z_aload_n dX9_boy_5 rfl ?_
  refine z_iload_n dX9_boy_6 rfl ?_
  refine y_callV1x (M' := M_X9_noBoy) dX9_boy_7 lm_X9_191 cv_X9_noBoy rfl (Nat.le_of_ble_eq_true rfl) (Nat.le_of_ble_eq_true rfl) rfl (m_noBoy hp hM x _) ?_
  refine zb_if_eq (tgt := 15) dX9_boy_10 (by decide) (fun hc10 => ?_) (fun hc10 => ?_)
  · have g : inr x (pb (aP A)) = true := by simpa using hc10
    obtain ⟨b, hb, rfl⟩ := inr_t (show inr x (pb (aP A)) = true from g) (by omega)
    refine z_iload_n dX9_boy_15 rfl ?_
    by_cases g2 : inr k 6 = true
    · obtain ⟨j, hj, rfl⟩ := inr_t g2 (by decide)
      obtain rfl | rfl | rfl | rfl | rfl | rfl : j = 0 ∨ j = 1 ∨ j = 2 ∨ j = 3 ∨ j = 4 ∨ j = 5 := by omega
      · refine z_tableIn (off := 40) (tgt := 56) dX9_boy_16 (by decide) (by decide) rfl (by decide) ?_
        refine z_aload_n dX9_boy_56 rfl ?_
        refine y_getR dX9_boy_57 lf_X9_35 rfl rfl ?_
        refine z_iload_n dX9_boy_60 rfl ?_
        refine y_ialde dX9_boy_61 rfl (by decide) (by omega) (hG.1 b hb).1 ?_
        exact y_ireturn dX9_boy_62 rfl (QM_rf hC (by simp [f_boy, g, g2, byt, ix_nI (show b < 2 ^ 31 by omega), ix_nI]))
      · refine z_tableIn (off := 47) (tgt := 63) dX9_boy_16 (by decide) (by decide) rfl (by decide) ?_
        refine z_aload_n dX9_boy_63 rfl ?_
        refine y_getR dX9_boy_64 lf_X9_26 rfl rfl ?_
        refine z_iload_n dX9_boy_67 rfl ?_
        refine y_ialde dX9_boy_68 rfl (by decide) (by omega) (hM.2.2.2.2.2 b hb).2 ?_
        exact y_ireturn dX9_boy_69 rfl (QM_rf hC (by simp [f_boy, g, g2, byt, ix_nI (show b < 2 ^ 31 by omega), ix_nI]))
      · refine z_tableIn (off := 54) (tgt := 70) dX9_boy_16 (by decide) (by decide) rfl (by decide) ?_
        refine z_aload_n dX9_boy_70 rfl ?_
        refine y_getR dX9_boy_71 lf_X9_23 rfl rfl ?_
        refine z_iload_n dX9_boy_74 rfl ?_
        refine y_ialde dX9_boy_75 rfl (by decide) (by omega) (hM.2.2.2.2.2 b hb).1 ?_
        exact y_ireturn dX9_boy_76 rfl (QM_rf hC (by simp [f_boy, g, g2, byt, ix_nI (show b < 2 ^ 31 by omega), ix_nI]))
      · refine z_tableIn (off := 61) (tgt := 77) dX9_boy_16 (by decide) (by decide) rfl (by decide) ?_
        refine z_aload_n dX9_boy_77 rfl ?_
        refine y_getR dX9_boy_78 lf_X9_35 rfl rfl ?_
        refine z_iconst (v := nI 5) dX9_boy_81 rfl ?_
        refine z_iload_n dX9_boy_82 rfl ?_
        refine zn_iadd dX9_boy_83 ?_
        refine y_ialde dX9_boy_84 rfl (by decide) (by omega) (hG.1 b hb).2.1 ?_
        exact y_ireturn dX9_boy_85 rfl (QM_rf hC (by simp [f_boy, g, g2, byt, ix_nI (show b < 2 ^ 31 by omega), ix_nI]))
      · refine z_tableIn (off := 70) (tgt := 86) dX9_boy_16 (by decide) (by decide) rfl (by decide) ?_
        refine z_aload_n dX9_boy_86 rfl ?_
        refine y_getR dX9_boy_87 lf_X9_35 rfl rfl ?_
        refine z_bipush (v := nI 10) dX9_boy_90 rfl ?_
        refine z_iload_n dX9_boy_92 rfl ?_
        refine zn_iadd dX9_boy_93 ?_
        refine y_ialde dX9_boy_94 rfl (by decide) (by omega) (hG.1 b hb).2.2 ?_
        exact y_ireturn dX9_boy_95 rfl (QM_rf hC (by simp [f_boy, g, g2, byt, ix_nI (show b < 2 ^ 31 by omega), ix_nI]))
      · refine z_tableIn (off := 80) (tgt := 96) dX9_boy_16 (by decide) (by decide) rfl (by decide) ?_
        refine z_aload_n dX9_boy_96 rfl ?_
        refine z_iload_n dX9_boy_97 rfl ?_
        refine y_callV1 (M' := M_X9_waysOf) dX9_boy_98 lm_X9_194 cv_X9_waysOf rfl (Nat.le_of_ble_eq_true rfl) (Nat.le_of_ble_eq_true rfl) rfl (m_waysOf hp hM hG hV hb _) (fun r mu1 nu1 hq => ?_)
        obtain ⟨rfl, rfl, hS⟩ := hq
        exact y_ireturn dX9_boy_101 rfl (QM_m hC (Sm_S hS) (by simp [f_boy, g, g2, byt, ix_nI (show b < 2 ^ 31 by omega), ix_nI]))
    · have hx : k.toInt < 0 ∨ 5 < k.toInt := by
        rcases Int.lt_or_le k.toInt 0 with h | h
        · exact Or.inl h
        · right
          rcases Int.lt_or_le 5 k.toInt with h2 | h2
          · exact h2
          · exfalso
            exact g2 (decide_eq_true ⟨by rw [Int32.le_iff_toInt_le]; simpa using h, by rw [Int32.lt_iff_toInt_lt, show (nI 6).toInt = 6 by decide]; omega⟩)
      refine z_tableOut (tgt := 102) dX9_boy_16 hx (by decide) ?_
      refine z_bipush (v := -2) dX9_boy_102 rfl ?_
      exact y_ireturn dX9_boy_104 rfl (QM_rf hC (by simp [f_boy, g, g2]))
  · have g : inr x (pb (aP A)) = false := by simpa using hc10
    refine z_iconst (v := -1) dX9_boy_13 rfl ?_
    exact y_ireturn dX9_boy_14 rfl (QM_rf hC (by simp [f_boy, g]))
set_option maxRecDepth 4000 in
theorem r_step {X : zX} {mu : zmu} {nu : znu} {A : AS} (hA : AV A) (hC : MR A mu nu) (x y : Int32) (d : Nat) : zJ X M_X9_step (d + 10) 0 0 0 [.ref 66, .int x, .int y] [] 86 (zEE (mu) (nu)) (zlift (QM (f_step A x y) mu nu)) := by
  have hp := hA.1
  have hV := hA.2.1
  have h20 : pw (aP A) * ph (aP A) ≤ 20 := hA.n
  have h5 := hA.b
  refine z_aload_n dX9_step_0 rfl ?_
  refine z_iconst (v := nI 0) dX9_step_1 rfl ?_
  refine y_putI dX9_step_2 lp_X9_75 rfl rfl ?_
  refine zJ_mono (Q := QM (f_step A x y) (u2 mu 66 0 (nI 0)) nu) ?_ QM_th
  replace hC := MR_m hC (Sm_th (mu := mu) (v := nI 0)) rfl
  generalize u2 mu 66 0 (nI 0) = mu at hC ⊢
  obtain ⟨hM, hG, hB, hKe, hE, hT, hD⟩ := id hC
  refine z_aload_n dX9_step_5 rfl ?_
  refine z_iload_n dX9_step_6 rfl ?_
  refine y_callV1x (M' := M_X9_noBoy) dX9_step_7 lm_X9_191 cv_X9_noBoy rfl (Nat.le_of_ble_eq_true rfl) (Nat.le_of_ble_eq_true rfl) rfl (m_noBoy hp hM x _) ?_
  refine zb_if_eq (tgt := 15) dX9_step_10 (by decide) (fun hc10 => ?_) (fun hc10 => ?_)
  · have g : inr x (pb (aP A)) = true := by simpa using hc10
    obtain ⟨b, hb, rfl⟩ := inr_t (show inr x (pb (aP A)) = true from g) (by omega)
    refine z_iload_n dX9_step_15 rfl ?_
    refine y_callS1x (M' := M_X9_noWay) dX9_step_16 lm_X9_184 cs_X9_noWay (Nat.le_of_ble_eq_true rfl) (Nat.le_of_ble_eq_true rfl) rfl (m_noWay y _) ?_
    refine zb_if_eq (tgt := 25) dX9_step_19 (by decide) (fun hc19 => ?_) (fun hc19 => ?_)
    · have g2 : inr y 4 = true := by simpa using hc19
      obtain ⟨w, hw, rfl⟩ := inr_t (show inr y (4) = true from g2) (by omega)
      refine z_aload_n dX9_step_25 rfl ?_
      refine z_aload_n dX9_step_26 rfl ?_
      refine y_getR dX9_step_27 lf_X9_35 rfl rfl ?_
      refine z_iload_n dX9_step_30 rfl ?_
      refine z_iload_n dX9_step_31 rfl ?_
      refine y_callV3 (M' := M_X9_canGo) dX9_step_32 lm_X9_159 cv_X9_canGo rfl (Nat.le_of_ble_eq_true rfl) (Nat.le_of_ble_eq_true rfl) rfl (m_canGo hp hM p73 hG hV hb hw _) (fun r mu1 nu1 hq => ?_)
      obtain ⟨rfl, rfl, hS, -⟩ := hq
      refine zb_if_ne (tgt := 41) dX9_step_35 (by decide) (fun hc35 => ?_) (fun hc35 => ?_)
      · obtain ⟨q, hpo⟩ := Option.isSome_iff_exists.mp hc35
        have hC1 := MR_s hC (Sm_S hS)
        obtain ⟨hM1, hG1, hB1, -⟩ := id hC1
        refine z_aload_n dX9_step_41 rfl ?_
        refine y_callV0 (M' := M_X9_note) dX9_step_42 lm_X9_197 cv_X9_note rfl (Nat.le_of_ble_eq_true rfl) (Nat.le_of_ble_eq_true rfl) rfl (m_note hp hB1 hG1 hA.2.2.1.1 _) (fun r mu2 nu2 hq => ?_)
        obtain ⟨rfl, rfl, hB2, hn2⟩ := hq
        obtain ⟨hC2, hF2⟩ := MR_note hC1 hB2 hn2
        refine z_aload_n dX9_step_45 rfl ?_
        refine z_aload_n dX9_step_46 rfl ?_
        refine y_getR dX9_step_47 lf_X9_35 rfl rfl ?_
        refine z_iload_n dX9_step_50 rfl ?_
        refine z_iload_n dX9_step_51 rfl ?_
        refine y_callV3 (M' := M_X9_goStep) dX9_step_52 lm_X9_200 cv_X9_goStep rfl (Nat.le_of_ble_eq_true rfl) (Nat.le_of_ble_eq_true rfl) rfl (m_goStep hp hC2.1 p73 hC2.2.1 hV hb hw _) (fun r mu3 nu3 hq => ?_)
        obtain ⟨rfl, rfl, hG3, hS3⟩ := hq
        obtain ⟨hC3, hF3⟩ := MR_now hC2 hG3 hS3
        have eg : (goS (aP A) (aN A) b w).1 b = q := by simp [goS, hpo, upP]
        refine z_pop dX9_step_55 rfl ?_
        refine z_aload_n dX9_step_56 rfl ?_
        refine y_getR dX9_step_57 lf_X9_35 rfl rfl ?_
        refine z_iload_n dX9_step_60 rfl ?_
        refine y_ialde dX9_step_61 rfl (by decide) (by omega) ((hG3.1 b hb).1.trans (congrArg (fun z => nI (z % 20)) eg)) ?_
        exact y_ireturn dX9_step_62 rfl (QM_of (A' := pshN A (goS (aP A) (aN A) b w)) (by simp [f_step, g, g2, ix_nI (show b < 2 ^ 31 by omega), ix_nI (show w < 2 ^ 31 by omega), hpo]) hC3 (FrM_tr (FrM_m (Sm_S hS)) (FrM_tr hF2 hF3)))
      · have hpo : pon (aP A) (aN A).2 b ((aN A).1 b) w = none := Option.not_isSome_iff_eq_none.mp (by rw [hc35]; decide)
        refine z_bipush (v := -3) dX9_step_38 rfl ?_
        exact y_ireturn dX9_step_40 rfl (QM_m hC (Sm_S hS) (by simp [f_step, g, g2, ix_nI (show b < 2 ^ 31 by omega), ix_nI (show w < 2 ^ 31 by omega), hpo]))
    · have g2 : inr y 4 = false := by simpa using hc19
      refine z_bipush (v := -2) dX9_step_22 rfl ?_
      exact y_ireturn dX9_step_24 rfl (QM_rf hC (by simp [f_step, g, g2]))
  · have g : inr x (pb (aP A)) = false := by simpa using hc10
    refine z_iconst (v := -1) dX9_step_13 rfl ?_
    exact y_ireturn dX9_step_14 rfl (QM_rf hC (by simp [f_step, g]))
theorem hm_br {p : PT} {P : Nat → Nat} {q : Nat} : ∀ n, bcnt (hmf p (brg p P q)) n = bcnt (hmf p P) n + bcnt (brf p P q) n
  | 0 => rfl
  | n + 1 => by
    rw [bcnt_s, bcnt_s, bcnt_s, hm_br n]
    have e : hmf p (brg p P q) n = (hmf p P n || brf p P q n) := by
      unfold brf
      cases hh : hrb p P q n with
      | true => simp [hmf, brg, hh]
      | false => simp [hmf, brg, hh]
    rw [e]
    unfold brf
    cases hmf p P n <;> cases hrb p P q n <;> simp <;> omega
theorem awy_br {p : PT} {P : Nat → Nat} {q : Nat} : awy p (brg p P q) ≤ awy p P ∧ awy p P - awy p (brg p P q) = bcnt (brf p P q) (pb p) := by
  have h := hm_br (p := p) (P := P) (q := q) (pb p)
  have h1 := bcnt_le (hmf p (brg p P q)) (pb p)
  unfold awy; omega
set_option maxRecDepth 4000 in
theorem r_call {X : zX} {mu : zmu} {nu : znu} {A : AS} (hA : AV A) (hC : MR A mu nu) (x : Int32) (d : Nat) : zJ X M_X9_call (d + 10) 0 0 0 [.ref 66, .int x, zu] [] 86 (zEE (mu) (nu)) (zlift (QM (f_call A x) mu nu)) := by
  have hp := hA.1
  have hV := hA.2.1
  have h20 : pw (aP A) * ph (aP A) ≤ 20 := hA.n
  have h5 := hA.b
  refine z_aload_n dX9_call_0 rfl ?_
  refine z_iconst (v := nI 0) dX9_call_1 rfl ?_
  refine y_putI dX9_call_2 lp_X9_75 rfl rfl ?_
  refine zJ_mono (Q := QM (f_call A x) (u2 mu 66 0 (nI 0)) nu) ?_ QM_th
  replace hC := MR_m hC (Sm_th (mu := mu) (v := nI 0)) rfl
  generalize u2 mu 66 0 (nI 0) = mu at hC ⊢
  obtain ⟨hM, hG, hB, hKe, hE, hT, hD⟩ := id hC
  refine z_aload_n dX9_call_5 rfl ?_
  refine z_iload_n dX9_call_6 rfl ?_
  refine y_callV1x (M' := M_X9_noCell) dX9_call_7 lm_X9_180 cv_X9_noCell rfl (Nat.le_of_ble_eq_true rfl) (Nat.le_of_ble_eq_true rfl) rfl (m_noCell hp hM x _) ?_
  refine zb_if_eq (tgt := 15) dX9_call_10 (by decide) (fun hc10 => ?_) (fun hc10 => ?_)
  · have g0 : inr x (pw (aP A) * ph (aP A)) = true := by simpa using hc10
    have g : inr x (an A) = true := g0
    obtain ⟨c, hc, rfl⟩ := inr_t (show inr x (pw (aP A) * ph (aP A)) = true from g) (by omega)
    refine z_aload_n dX9_call_15 rfl ?_
    refine y_callV0 (M' := M_X9_note) dX9_call_16 lm_X9_197 cv_X9_note rfl (Nat.le_of_ble_eq_true rfl) (Nat.le_of_ble_eq_true rfl) rfl (m_note hp hB hG hA.2.2.1.1 _) (fun r mu2 nu2 hq => ?_)
    obtain ⟨rfl, rfl, hB2, hn2⟩ := hq
    obtain ⟨hC2, hF2⟩ := MR_note hC hB2 hn2
    refine z_aload_n dX9_call_19 rfl ?_
    refine z_aload_n dX9_call_20 rfl ?_
    refine y_getR dX9_call_21 lf_X9_35 rfl rfl ?_
    refine y_callV1x (M' := M_X9_away) dX9_call_24 lm_X9_206 cv_X9_away rfl (Nat.le_of_ble_eq_true rfl) (Nat.le_of_ble_eq_true rfl) rfl (m_away hp hC2.1 p73 hC2.2.1 hV _) ?_
    refine z_istore2 dX9_call_27 rfl ?_
    refine z_aload_n dX9_call_28 rfl ?_
    refine z_aload_n dX9_call_29 rfl ?_
    refine y_getR dX9_call_30 lf_X9_35 rfl rfl ?_
    refine z_iload_n dX9_call_33 rfl ?_
    refine y_callV2 (M' := M_X9_goCall) dX9_call_34 lm_X9_209 cv_X9_goCall rfl (Nat.le_of_ble_eq_true rfl) (Nat.le_of_ble_eq_true rfl) rfl (m_goCall hp hC2.1 p73 hC2.2.1 hV hc _) (fun r mu3 nu3 hq => ?_)
    obtain ⟨rfl, rfl, hG3, hS3⟩ := hq
    obtain ⟨hC3, hF3⟩ := MR_now hC2 hG3 hS3
    have haw := awy_br (p := aP A) (P := (aN A).1) (q := c)
    refine z_iload_n dX9_call_37 rfl ?_
    refine z_aload_n dX9_call_38 rfl ?_
    refine z_aload_n dX9_call_39 rfl ?_
    refine y_getR dX9_call_40 lf_X9_35 rfl rfl ?_
    refine y_callV1x (M' := M_X9_away) dX9_call_43 lm_X9_206 cv_X9_away rfl (Nat.le_of_ble_eq_true rfl) (Nat.le_of_ble_eq_true rfl) rfl (m_away hp hC3.1 p73 hC3.2.1 (SVs_br hp hV c) _) ?_
    refine zn_isub dX9_call_46 haw.1 ?_
    show zJ X M_X9_call (d + 9 + 1) 0 0 _ _ (.int (nI (awy (aP A) (aN A).1 - awy (aP A) (brg (aP A) (aN A).1 c))) :: _) 86 _ _
    rw [haw.2]
    exact y_ireturn dX9_call_47 rfl (QM_of (A' := pshN A (brS' (aP A) (aN A) c)) (by simp [f_call, g, ix_nI (show c < 2 ^ 31 by omega)]) hC3 (FrM_tr hF2 hF3))
  · have g0 : inr x (pw (aP A) * ph (aP A)) = false := by simpa using hc10
    have g : inr x (an A) = false := g0
    refine z_iconst (v := -1) dX9_call_13 rfl ?_
    exact y_ireturn dX9_call_14 rfl (QM_rf hC (by simp [f_call, g]))
set_option maxRecDepth 4000 in
theorem r_cut {X : zX} {mu : zmu} {nu : znu} {A : AS} (hA : AV A) (hC : MR A mu nu) (x : Int32) (d : Nat) : zJ X M_X9_cut (d + 10) 0 0 0 [.ref 66, .int x] [] 86 (zEE (mu) (nu)) (zlift (QM (f_cut A x) mu nu)) := by
  have hp := hA.1
  have hV := hA.2.1
  have h20 : pw (aP A) * ph (aP A) ≤ 20 := hA.n
  have h5 := hA.b
  have hcl : (aN A).2 < 2 ^ 20 := hV.2
  refine z_aload_n dX9_cut_0 rfl ?_
  refine z_iconst (v := nI 0) dX9_cut_1 rfl ?_
  refine y_putI dX9_cut_2 lp_X9_75 rfl rfl ?_
  refine zJ_mono (Q := QM (f_cut A x) (u2 mu 66 0 (nI 0)) nu) ?_ QM_th
  replace hC := MR_m hC (Sm_th (mu := mu) (v := nI 0)) rfl
  generalize u2 mu 66 0 (nI 0) = mu at hC ⊢
  obtain ⟨hM, hG, hB, hKe, hE, hT, hD⟩ := id hC
  refine z_aload_n dX9_cut_5 rfl ?_
  refine z_iload_n dX9_cut_6 rfl ?_
  refine y_callV1x (M' := M_X9_noCell) dX9_cut_7 lm_X9_180 cv_X9_noCell rfl (Nat.le_of_ble_eq_true rfl) (Nat.le_of_ble_eq_true rfl) rfl (m_noCell hp hM x _) ?_
  refine zb_if_eq (tgt := 15) dX9_cut_10 (by decide) (fun hc10 => ?_) (fun hc10 => ?_)
  · have g0 : inr x (pw (aP A) * ph (aP A)) = true := by simpa using hc10
    have g : inr x (an A) = true := g0
    obtain ⟨c, hc, rfl⟩ := inr_t (show inr x (pw (aP A) * ph (aP A)) = true from g) (by omega)
    refine z_aload_n dX9_cut_15 rfl ?_
    refine z_aload_n dX9_cut_16 rfl ?_
    refine y_getR dX9_cut_17 lf_X9_35 rfl rfl ?_
    refine z_iload_n dX9_cut_20 rfl ?_
    refine y_callV2x (M' := M_X9_kindOf) dX9_cut_21 lm_X9_144 cv_X9_kindOf rfl (Nat.le_of_ble_eq_true rfl) (Nat.le_of_ble_eq_true rfl) rfl (m_kindOf hp hM p73 hG hV hc _) ?_
    have hk3 := kdk_le hp (cut := (aN A).2) hc
    refine z_iconst (v := nI 1) dX9_cut_24 rfl ?_
    refine zn_icmp_eq (tgt := 31) dX9_cut_25 (by decide) (by omega) (by omega) (fun hc25 => ?_) (fun hc25 => ?_)
    · refine z_aload_n dX9_cut_31 rfl ?_
      refine y_callV0 (M' := M_X9_note) dX9_cut_32 lm_X9_197 cv_X9_note rfl (Nat.le_of_ble_eq_true rfl) (Nat.le_of_ble_eq_true rfl) rfl (m_note hp hB hG hA.2.2.1.1 _) (fun r mu2 nu2 hq => ?_)
      obtain ⟨rfl, rfl, hB2, hn2⟩ := hq
      obtain ⟨hC2, hF2⟩ := MR_note hC hB2 hn2
      refine z_aload_n dX9_cut_35 rfl ?_
      refine y_getR dX9_cut_36 lf_X9_35 rfl rfl ?_
      refine z_bipush (v := nI 15) dX9_cut_39 rfl ?_
      refine z_dup2 dX9_cut_41 rfl rfl ?_
      refine y_ialde dX9_cut_42 rfl (by decide) (by omega) hC2.2.1.2 ?_
      refine z_iconst (v := nI 1) dX9_cut_43 rfl ?_
      refine z_iload_n dX9_cut_44 rfl ?_
      refine zn_ishl dX9_cut_45 (by omega) (by have : 1 * 2 ^ c ≤ 1 * 2 ^ 20 := Nat.mul_le_mul_left 1 (Nat.pow_le_pow_right (by decide) (by omega)); omega) ?_
      refine zn_ior dX9_cut_46 ?_
      refine y_iast dX9_cut_47 rfl (by decide) (by omega) ?_
      obtain ⟨hC3, hF3⟩ := MR_now (s := cuS (aN A) c) hC2 (PG_cut hp hC2.2.1) S8a_u
      refine z_aload_n dX9_cut_48 rfl ?_
      refine z_iconst (v := nI 1) dX9_cut_49 rfl ?_
      refine y_callV1x (M' := M_X9_cellsOf) dX9_cut_50 lm_X9_174 cv_X9_cellsOf rfl (Nat.le_of_ble_eq_true rfl) (Nat.le_of_ble_eq_true rfl) rfl (m_cellsOf hp hC3.1 hC3.2.1 (SVs_cu hV (show c < 20 by omega)) (k := 1) (by decide) _) ?_
      refine y_callS1x (M' := M_X9_many) dX9_cut_53 lm_X9_170 cs_X9_many (Nat.le_of_ble_eq_true rfl) (Nat.le_of_ble_eq_true rfl) rfl (m_many (Nat.lt_of_lt_of_le (bset_lt _ _) (Nat.pow_le_pow_right (n := 2) (by decide) (by show pw (aP A) * ph (aP A) ≤ 31; omega))) _) ?_
      rw [popc_bset h20]
      exact y_ireturn dX9_cut_56 rfl (QM_of (A' := pshN A (cuS (aN A) c)) (by simp [f_cut, g, ix_nI (show c < 2 ^ 31 by omega), hc25]; rfl) hC3 (FrM_tr hF2 hF3))
    · refine z_bipush (v := -3) dX9_cut_28 rfl ?_
      exact y_ireturn dX9_cut_30 rfl (QM_rf hC (by simp [f_cut, g, ix_nI (show c < 2 ^ 31 by omega), hc25]))
  · have g0 : inr x (pw (aP A) * ph (aP A)) = false := by simpa using hc10
    have g : inr x (an A) = false := g0
    refine z_iconst (v := -1) dX9_cut_13 rfl ?_
    exact y_ireturn dX9_cut_14 rfl (QM_rf hC (by simp [f_cut, g]))
set_option maxRecDepth 4000 in
theorem r_undo_l {X : zX} {mu : zmu} {nu : znu} {k : Nat} (hk : mu 66 20 = nI k) (h14 : k < 14) (d : Nat) : ∀ n i , i + n = 16 → zJ X M_X9_undo d 0 0 27 [.ref 66, .int (nI i)] [] 86 (zEE (uR mu 73 (cpo 0 (fun j => mu 75 (16 * k + j)) (mu 73) i)) (nu)) (zlift (zex (some (.int (nI k))) (uR mu 73 (cpo 0 (fun j => mu 75 (16 * k + j)) (mu 73) 16)) nu)) := by
  intro n
  induction n with
  | zero =>
    intro i  hi
    obtain rfl : i = 16 := by omega
    refine z_iload_n dX9_undo_27 rfl ?_
    refine z_bipush (v := nI 16) dX9_undo_28 rfl ?_
    refine zn_icmp_ge (tgt := 59) dX9_undo_30 (by decide) (by omega) (by omega) (fun hc30 => ?_) (fun hc30 => by omega)
    refine z_aload_n dX9_undo_59 rfl ?_
    refine y_getIe dX9_undo_60 lf_X9_131 rfl rfl ((congrFun (uR_a (by decide)) 20).trans hk) ?_
    exact y_ireturn dX9_undo_63 rfl ⟨rfl, rfl, rfl⟩
  | succ n ih =>
    intro i  hi
    refine z_iload_n dX9_undo_27 rfl ?_
    refine z_bipush (v := nI 16) dX9_undo_28 rfl ?_
    refine zn_icmp_ge (tgt := 59) dX9_undo_30 (by decide) (by omega) (by omega) (fun hc30 => by omega) (fun hc30 => ?_)
    refine z_aload_n dX9_undo_33 rfl ?_
    refine y_getR dX9_undo_34 lf_X9_35 rfl rfl ?_
    refine z_iload_n dX9_undo_37 rfl ?_
    refine z_aload_n dX9_undo_38 rfl ?_
    refine y_getR dX9_undo_39 lf_X9_41 rfl rfl ?_
    refine z_bipush (v := nI 16) dX9_undo_42 rfl ?_
    refine z_aload_n dX9_undo_44 rfl ?_
    refine y_getIe dX9_undo_45 lf_X9_131 rfl rfl ((congrFun (uR_a (by decide)) 20).trans hk) ?_
    refine zn_imul dX9_undo_48 ?_
    refine z_iload_n dX9_undo_49 rfl ?_
    refine zn_iadd dX9_undo_50 ?_
    refine y_ialde dX9_undo_51 rfl (by decide) (by omega) (congrFun (uR_a (by decide)) (16 * k + i)) ?_
    refine y_iast dX9_undo_52 rfl (by decide) (by omega) ?_
    have ec := cpo_s (mu := mu) (a := 73) (o := 0) (i := i) (f := fun j => mu 75 (16 * k + j)) (g := mu 73)
    rw [Nat.zero_add] at ec
    rw [ec]
    refine zn_iinc1 dX9_undo_53 rfl ?_
    refine z_goto (tgt := 27) dX9_undo_56 (by decide) ?_
    exact ih (i + 1) (by omega)
theorem MR_back {A : AS} {mu mu1 : zmu} {nu : znu} {s : SC} {k : Nat} (h : MR A mu nu) (hk : k ≤ (aA A).1) (h20 : mu1 66 20 = nI k) (hG : PG (aP A) s 73 mu1) (e : ∀ a, a ≠ 66 → a ≠ 73 → mu1 a = mu a) (e2 : ∀ j, j ≠ 20 → mu1 66 j = mu 66 j) : MR (setA (setN A s) (k, (aA A).2)) mu1 nu ∧ FrM mu nu mu1 nu := by
  obtain ⟨h1, h2, h3, h4, h5, h6, h7⟩ := h
  refine ⟨⟨?_, hG, ⟨h20, fun i hi => PGo_e (h3.2 i (Nat.lt_of_lt_of_le hi hk)) (e 75 (by decide) (by decide))⟩, KM_e h4 (e 76 (by decide) (by decide)) (e 77 (by decide) (by decide)), SM_e h5 (e2 23 (by decide)) (e 78 (by decide) (by decide)) (e 79 (by decide) (by decide)) (e 80 (by decide) (by decide)), TM_e h6 (e2 2 (by decide)) (e 67 (by decide) (by decide)), h7⟩, fun a ha => e a (by omega) (by omega), rfl⟩
  show PM (aP A) mu1
  unfold PM at *
  rw [e2 4 (by decide), e2 5 (by decide), e2 6 (by decide), e2 8 (by decide), e 68 (by decide) (by decide), e 69 (by decide) (by decide), e 70 (by decide) (by decide)]
  exact h1
set_option maxRecDepth 4000 in
theorem r_undo {X : zX} {mu : zmu} {nu : znu} {A : AS} (hA : AV A) (hC : MR A mu nu) (d : Nat) : zJ X M_X9_undo (d + 10) 0 0 0 [.ref 66, zu] [] 86 (zEE (mu) (nu)) (zlift (QM (f_undo A) mu nu)) := by
  have hp := hA.1
  have hV := hA.2.1
  have h20 : pw (aP A) * ph (aP A) ≤ 20 := hA.n
  have h5 := hA.b
  have h14 := hA.2.2.1.1
  refine z_aload_n dX9_undo_0 rfl ?_
  refine z_iconst (v := nI 0) dX9_undo_1 rfl ?_
  refine y_putI dX9_undo_2 lp_X9_75 rfl rfl ?_
  refine zJ_mono (Q := QM (f_undo A) (u2 mu 66 0 (nI 0)) nu) ?_ QM_th
  replace hC := MR_m hC (Sm_th (mu := mu) (v := nI 0)) rfl
  generalize u2 mu 66 0 (nI 0) = mu at hC ⊢
  obtain ⟨hM, hG, hB, hKe, hE, hT, hD⟩ := id hC
  refine z_aload_n dX9_undo_5 rfl ?_
  refine y_getIe dX9_undo_6 lf_X9_131 rfl rfl hB.1 ?_
  refine zn_if_ne (tgt := 15) dX9_undo_9 (by decide) (by omega) (fun hc9 => ?_) (fun hc9 => ?_)
  · refine z_aload_n dX9_undo_15 rfl ?_
    refine z_dup dX9_undo_16 rfl ?_
    refine y_getIe dX9_undo_17 lf_X9_131 rfl rfl hB.1 ?_
    refine z_iconst (v := nI 1) dX9_undo_20 rfl ?_
    refine zn_isub dX9_undo_21 (by omega) ?_
    refine y_putI dX9_undo_22 lp_X9_131 rfl rfl ?_
    refine z_iconst (v := nI 0) dX9_undo_25 rfl ?_
    refine z_istore1 dX9_undo_26 rfl ?_
    have k := r_undo_l (X := X) (nu := nu) (mu := u2 mu 66 20 (nI ((aA A).1 - 1))) (k := (aA A).1 - 1) u2_s (by omega) (d + 10) 16 0 (by omega)
    rw [cpo_0] at k
    refine zJ_mono k ?_
    rintro r mu1 nu1 ⟨rfl, rfl, rfl⟩
    have hr := MR_back (mu1 := uR (u2 mu 66 20 (nI ((aA A).1 - 1))) 73 (cpo 0 (fun j => u2 mu 66 20 (nI ((aA A).1 - 1)) 75 (16 * ((aA A).1 - 1) + j)) (u2 mu 66 20 (nI ((aA A).1 - 1)) 73) 16)) (s := (aA A).2 ((aA A).1 - 1)) (k := (aA A).1 - 1) hC (by omega) (by rw [uR_a (by decide), u2_s]) (PG_from hp (hB.2 ((aA A).1 - 1) (by omega)) (fun j hj => ?_)) (fun a h1 h2 => by rw [uR_a h2, u2_rowa h1]) (fun j hj => by rw [uR_a (by decide), u2_k hj])
    · exact QM_of (A' := popA A) (by simp [f_undo, hc9]) hr.1 hr.2
    · rw [uR_s]
      have ec := cpo_at (o := 0) (f := fun j => u2 mu 66 20 (nI ((aA A).1 - 1)) 75 (16 * ((aA A).1 - 1) + j)) (g := u2 mu 66 20 (nI ((aA A).1 - 1)) 73) hj
      rw [Nat.zero_add] at ec
      rw [ec, u2_a (by decide)]
  · refine z_bipush (v := -3) dX9_undo_12 rfl ?_
    exact y_ireturn dX9_undo_14 rfl (QM_rf hC (by simp [f_undo, hc9]))
set_option maxRecDepth 4000 in
theorem r_again_l {X : zX} {mu : zmu} {nu : znu} {A : AS} (hA : AV A) (hC : MR A mu nu) {b w : Nat} (hb : b < pb (aP A)) (hw : w < 4) (d : Nat) : ∀ n i c mu1, i + n = 21 → c < pw (aP A) * ph (aP A) → S81 mu mu1 → zJ X M_X9_again (d + 10) 0 0 35 [.ref 66, .int (nI b), .int (nI w), .int (nI c), .int (nI i)] [] 86 (zEE (mu1) (nu)) (zlift (QM (o9 (agR (fun c => nbc (pw (aP A)) (ph (aP A)) (pdx (aP A) (pX (aP A) b)) c w) (fun c => cbe (pX (aP A) b) (kdk (pK (aP A)) (aN A).2 c)) ((aN A).1 b % 20) n c i), A) mu nu)) := by
  intro n
  induction n with
  | zero =>
    intro i c mu1 hi
    have hp := hA.1
    have hV := hA.2.1
    have h20 : pw (aP A) * ph (aP A) ≤ 20 := hA.n
    have h5 := hA.b
    intro hc hS
    refine z_iload dX9_again_35 rfl ?_
    refine z_bipush (v := nI 20) dX9_again_37 rfl ?_
    refine zn_icmp_gt (tgt := 99) dX9_again_39 (by decide) (by omega) (by omega) (fun hc39 => ?_) (fun hc39 => by omega)
    refine z_bipush (v := -9) dX9_again_99 rfl ?_
    exact y_ireturn dX9_again_101 rfl (QM_m hC (Sm_S hS) rfl)
  | succ n ih =>
    intro i c mu1 hi
    have hp := hA.1
    have hV := hA.2.1
    have h20 : pw (aP A) * ph (aP A) ≤ 20 := hA.n
    have h5 := hA.b
    intro hc hS
    have hn := nbc_lt hp (pdx_lt hp (pX (aP A) b)) hc hw
    have hPb := hV.1 b hb
    have hx3 := (hp.2.2.2.2.2.2.2 b hb).2
    obtain ⟨hM, hG, -⟩ := id hC
    refine z_iload dX9_again_35 rfl ?_
    refine z_bipush (v := nI 20) dX9_again_37 rfl ?_
    refine zn_icmp_gt (tgt := 99) dX9_again_39 (by decide) (by omega) (by omega) (fun hc39 => by omega) (fun hc39 => ?_)
    refine z_aload_n dX9_again_42 rfl ?_
    refine z_iload_n dX9_again_43 rfl ?_
    refine z_iload_n dX9_again_44 rfl ?_
    refine z_aload_n dX9_again_45 rfl ?_
    refine y_getR dX9_again_46 lf_X9_26 rfl rfl ?_
    refine z_iload_n dX9_again_49 rfl ?_
    refine y_ialde dX9_again_50 rfl (by decide) (by omega) ((congrFun (hS 70 (by decide)) b).trans (hM.2.2.2.2.2 b hb).2) ?_
    refine z_iconst (v := nI 3) dX9_again_51 rfl ?_
    refine zn_icmp_ne (tgt := 59) dX9_again_52 (by decide) (by omega) (by omega) (fun hc52 => ?_) (fun hc52 => ?_)
    · have eX : b2i (pX (aP A) b == 3) = nI 0 := b2i_f (by simp [hc52])
      refine z_iconst (v := nI 0) dX9_again_59 rfl ?_
      rw [← eX]
      refine y_callV3 (M' := M_X9_cellBeside) dX9_again_60 lm_X9_187 cv_X9_cellBeside rfl (Nat.le_of_ble_eq_true rfl) (Nat.le_of_ble_eq_true rfl) rfl (m_cellBeside hp (PM_S hM hS) hc hw (pX (aP A) b == 3) _) (fun r mu2 nu2 hq2 => ?_)
      obtain ⟨rfl, rfl, hS2⟩ := hq2
      rw [pdx_b]
      have hSS := S81_tr hS hS2
      refine z_istore3 dX9_again_63 rfl ?_
      refine z_aload_n dX9_again_64 rfl ?_
      refine z_aload_n dX9_again_65 rfl ?_
      refine y_getR dX9_again_66 lf_X9_35 rfl rfl ?_
      refine z_iload_n dX9_again_69 rfl ?_
      refine z_iload_n dX9_again_70 rfl ?_
      refine y_callV3x (M' := M_X9_canBe) dX9_again_71 lm_X9_155 cv_X9_canBe rfl (Nat.le_of_ble_eq_true rfl) (Nat.le_of_ble_eq_true rfl) rfl (m_canBe hp (PM_S hM hSS) p73 (PG_S hG p73 hSS) hV hb hn _) ?_
      refine zb_if_ne (tgt := 80) dX9_again_74 (by decide) (fun hc74 => ?_) (fun hc74 => ?_)
      · refine z_iload_n dX9_again_80 rfl ?_
        refine z_aload_n dX9_again_81 rfl ?_
        refine y_getR dX9_again_82 lf_X9_35 rfl rfl ?_
        refine z_iload_n dX9_again_85 rfl ?_
        refine y_ialde dX9_again_86 rfl (by decide) (by omega) ((congrFun (hSS 73 (by decide)) b).trans (hG.1 b hb).1) ?_
        refine zn_icmp_ne (tgt := 93) dX9_again_87 (by decide) (by omega) (by omega) (fun hc87 => ?_) (fun hc87 => ?_)
        · refine zn_iinc4 dX9_again_93 rfl ?_
          refine z_goto (tgt := 35) dX9_again_96 (by decide) ?_
          have e : agR (fun c => nbc (pw (aP A)) (ph (aP A)) (pdx (aP A) (pX (aP A) b)) c w) (fun c => cbe (pX (aP A) b) (kdk (pK (aP A)) (aN A).2 c)) ((aN A).1 b % 20) (n + 1) c i = agR (fun c => nbc (pw (aP A)) (ph (aP A)) (pdx (aP A) (pX (aP A) b)) c w) (fun c => cbe (pX (aP A) b) (kdk (pK (aP A)) (aN A).2 c)) ((aN A).1 b % 20) n (nbc (pw (aP A)) (ph (aP A)) (pdx (aP A) (pX (aP A) b)) c w) (i + 1) := by simp [agR, hc74, hc87]
          rw [e]; exact ih (i + 1) _ mu2 (by omega) hn hSS
        · refine z_iload dX9_again_90 rfl ?_
          exact y_ireturn dX9_again_92 rfl (QM_m hC (Sm_S hSS) (by simp only [agR, hc74, Bool.true_eq_false, if_false]; rw [if_pos hc87]; rfl))
      · refine z_bipush (v := -9) dX9_again_77 rfl ?_
        exact y_ireturn dX9_again_79 rfl (QM_m hC (Sm_S hSS) (by simp [agR, hc74, o9]))
    · have eX : b2i (pX (aP A) b == 3) = nI 1 := b2i_t (by simp [hc52])
      refine z_iconst (v := nI 1) dX9_again_55 rfl ?_
      refine z_goto (tgt := 60) dX9_again_56 (by decide) ?_
      rw [← eX]
      refine y_callV3 (M' := M_X9_cellBeside) dX9_again_60 lm_X9_187 cv_X9_cellBeside rfl (Nat.le_of_ble_eq_true rfl) (Nat.le_of_ble_eq_true rfl) rfl (m_cellBeside hp (PM_S hM hS) hc hw (pX (aP A) b == 3) _) (fun r mu2 nu2 hq2 => ?_)
      obtain ⟨rfl, rfl, hS2⟩ := hq2
      rw [pdx_b]
      have hSS := S81_tr hS hS2
      refine z_istore3 dX9_again_63 rfl ?_
      refine z_aload_n dX9_again_64 rfl ?_
      refine z_aload_n dX9_again_65 rfl ?_
      refine y_getR dX9_again_66 lf_X9_35 rfl rfl ?_
      refine z_iload_n dX9_again_69 rfl ?_
      refine z_iload_n dX9_again_70 rfl ?_
      refine y_callV3x (M' := M_X9_canBe) dX9_again_71 lm_X9_155 cv_X9_canBe rfl (Nat.le_of_ble_eq_true rfl) (Nat.le_of_ble_eq_true rfl) rfl (m_canBe hp (PM_S hM hSS) p73 (PG_S hG p73 hSS) hV hb hn _) ?_
      refine zb_if_ne (tgt := 80) dX9_again_74 (by decide) (fun hc74 => ?_) (fun hc74 => ?_)
      · refine z_iload_n dX9_again_80 rfl ?_
        refine z_aload_n dX9_again_81 rfl ?_
        refine y_getR dX9_again_82 lf_X9_35 rfl rfl ?_
        refine z_iload_n dX9_again_85 rfl ?_
        refine y_ialde dX9_again_86 rfl (by decide) (by omega) ((congrFun (hSS 73 (by decide)) b).trans (hG.1 b hb).1) ?_
        refine zn_icmp_ne (tgt := 93) dX9_again_87 (by decide) (by omega) (by omega) (fun hc87 => ?_) (fun hc87 => ?_)
        · refine zn_iinc4 dX9_again_93 rfl ?_
          refine z_goto (tgt := 35) dX9_again_96 (by decide) ?_
          have e : agR (fun c => nbc (pw (aP A)) (ph (aP A)) (pdx (aP A) (pX (aP A) b)) c w) (fun c => cbe (pX (aP A) b) (kdk (pK (aP A)) (aN A).2 c)) ((aN A).1 b % 20) (n + 1) c i = agR (fun c => nbc (pw (aP A)) (ph (aP A)) (pdx (aP A) (pX (aP A) b)) c w) (fun c => cbe (pX (aP A) b) (kdk (pK (aP A)) (aN A).2 c)) ((aN A).1 b % 20) n (nbc (pw (aP A)) (ph (aP A)) (pdx (aP A) (pX (aP A) b)) c w) (i + 1) := by simp [agR, hc74, hc87]
          rw [e]; exact ih (i + 1) _ mu2 (by omega) hn hSS
        · refine z_iload dX9_again_90 rfl ?_
          exact y_ireturn dX9_again_92 rfl (QM_m hC (Sm_S hSS) (by simp only [agR, hc74, Bool.true_eq_false, if_false]; rw [if_pos hc87]; rfl))
      · refine z_bipush (v := -9) dX9_again_77 rfl ?_
        exact y_ireturn dX9_again_79 rfl (QM_m hC (Sm_S hSS) (by simp [agR, hc74, o9]))
set_option maxRecDepth 4000 in
theorem r_again {X : zX} {mu : zmu} {nu : znu} {A : AS} (hA : AV A) (hC : MR A mu nu) (x y : Int32) (d : Nat) : zJ X M_X9_again (d + 10) 0 0 0 [.ref 66, .int x, .int y, zu, zu] [] 86 (zEE (mu) (nu)) (zlift (QM (f_again A x y) mu nu)) := by
  have hp := hA.1
  have hV := hA.2.1
  have h20 : pw (aP A) * ph (aP A) ≤ 20 := hA.n
  have h5 := hA.b
  refine z_aload_n dX9_again_0 rfl ?_
  refine z_iconst (v := nI 0) dX9_again_1 rfl ?_
  refine y_putI dX9_again_2 lp_X9_75 rfl rfl ?_
  refine zJ_mono (Q := QM (f_again A x y) (u2 mu 66 0 (nI 0)) nu) ?_ QM_th
  replace hC := MR_m hC (Sm_th (mu := mu) (v := nI 0)) rfl
  generalize u2 mu 66 0 (nI 0) = mu at hC ⊢
  obtain ⟨hM, hG, hB, hKe, hE, hT, hD⟩ := id hC
  refine z_aload_n dX9_again_5 rfl ?_
  refine z_iload_n dX9_again_6 rfl ?_
  refine y_callV1x (M' := M_X9_noBoy) dX9_again_7 lm_X9_191 cv_X9_noBoy rfl (Nat.le_of_ble_eq_true rfl) (Nat.le_of_ble_eq_true rfl) rfl (m_noBoy hp hM x _) ?_
  refine zb_if_eq (tgt := 15) dX9_again_10 (by decide) (fun hc10 => ?_) (fun hc10 => ?_)
  · have g : inr x (pb (aP A)) = true := by simpa using hc10
    obtain ⟨b, hb, rfl⟩ := inr_t (show inr x (pb (aP A)) = true from g) (by omega)
    refine z_iload_n dX9_again_15 rfl ?_
    refine y_callS1x (M' := M_X9_noWay) dX9_again_16 lm_X9_184 cs_X9_noWay (Nat.le_of_ble_eq_true rfl) (Nat.le_of_ble_eq_true rfl) rfl (m_noWay y _) ?_
    refine zb_if_eq (tgt := 25) dX9_again_19 (by decide) (fun hc19 => ?_) (fun hc19 => ?_)
    · have g2 : inr y 4 = true := by simpa using hc19
      obtain ⟨w, hw, rfl⟩ := inr_t (show inr y (4) = true from g2) (by omega)
      refine z_aload_n dX9_again_25 rfl ?_
      refine y_getR dX9_again_26 lf_X9_35 rfl rfl ?_
      refine z_iload_n dX9_again_29 rfl ?_
      refine y_ialde dX9_again_30 rfl (by decide) (by omega) (hG.1 b hb).1 ?_
      refine z_istore3 dX9_again_31 rfl ?_
      refine z_iconst (v := nI 1) dX9_again_32 rfl ?_
      refine z_istore4 dX9_again_33 rfl ?_
      have e : f_again A (nI b) (nI w) = (o9 (agR (fun c => nbc (pw (aP A)) (ph (aP A)) (pdx (aP A) (pX (aP A) b)) c w) (fun c => cbe (pX (aP A) b) (kdk (pK (aP A)) (aN A).2 c)) ((aN A).1 b % 20) 20 ((aN A).1 b % 20) 1), A) := by simp [f_again, g, g2, ix_nI (show b < 2 ^ 31 by omega), ix_nI (show w < 2 ^ 31 by omega), agn]
      rw [e]
      exact r_again_l hA hC hb hw d 20 1 _ mu (by omega) (hV.1 b hb).2 S81_rf
    · have g2 : inr y 4 = false := by simpa using hc19
      refine z_bipush (v := -2) dX9_again_22 rfl ?_
      exact y_ireturn dX9_again_24 rfl (QM_rf hC (by simp [f_again, g, g2]))
  · have g : inr x (pb (aP A)) = false := by simpa using hc10
    refine z_iconst (v := -1) dX9_again_13 rfl ?_
    exact y_ireturn dX9_again_14 rfl (QM_rf hC (by simp [f_again, g]))
set_option maxRecDepth 4000 in
theorem r_alike_l {X : zX} {mu : zmu} {nu : znu} {A : AS} (hA : AV A) (hC : MR A mu nu) {c : Nat} (hc : c < pw (aP A) * ph (aP A)) (d : Nat) : ∀ n i mu1, i + n = pw (aP A) * ph (aP A) → S81 mu mu1 → zJ X M_X9_alike (d + 10) 0 0 19 [.ref 66, .int (nI c), .int (nI (bset (lke (aP A) (aN A).2 c) i)), .int (nI i)] [] 86 (zEE (mu1) (nu)) (zlift (QM (nI (bset (lke (aP A) (aN A).2 c) (an A)), A) mu nu)) := by
  intro n
  induction n with
  | zero =>
    intro i mu1 hi
    have hp := hA.1
    have hV := hA.2.1
    have h20 : pw (aP A) * ph (aP A) ≤ 20 := hA.n
    have h5 := hA.b
    intro hS
    obtain ⟨hM, hG, -⟩ := id hC
    obtain rfl : i = pw (aP A) * ph (aP A) := by omega
    refine z_iload_n dX9_alike_19 rfl ?_
    refine z_aload_n dX9_alike_20 rfl ?_
    refine y_getIe dX9_alike_21 lf_X9_13 rfl rfl (PM_S hM hS).1 ?_
    refine z_aload_n dX9_alike_24 rfl ?_
    refine y_getIe dX9_alike_25 lf_X9_17 rfl rfl (PM_S hM hS).2.1 ?_
    refine zn_imul dX9_alike_28 ?_
    refine zn_icmp_ge (tgt := 57) dX9_alike_29 (by decide) (by omega) (by omega) (fun hc29 => ?_) (fun hc29 => by omega)
    refine z_iload_n dX9_alike_57 rfl ?_
    exact y_ireturn dX9_alike_58 rfl (QM_m hC (Sm_S hS) rfl)
  | succ n ih =>
    intro i mu1 hi
    have hp := hA.1
    have hV := hA.2.1
    have h20 : pw (aP A) * ph (aP A) ≤ 20 := hA.n
    have h5 := hA.b
    intro hS
    obtain ⟨hM, hG, -⟩ := id hC
    refine z_iload_n dX9_alike_19 rfl ?_
    refine z_aload_n dX9_alike_20 rfl ?_
    refine y_getIe dX9_alike_21 lf_X9_13 rfl rfl (PM_S hM hS).1 ?_
    refine z_aload_n dX9_alike_24 rfl ?_
    refine y_getIe dX9_alike_25 lf_X9_17 rfl rfl (PM_S hM hS).2.1 ?_
    refine zn_imul dX9_alike_28 ?_
    refine zn_icmp_ge (tgt := 57) dX9_alike_29 (by decide) (by omega) (by omega) (fun hc29 => by omega) (fun hc29 => ?_)
    refine z_iload_n dX9_alike_32 rfl ?_
    refine z_aload_n dX9_alike_33 rfl ?_
    refine z_iload_n dX9_alike_34 rfl ?_
    refine z_iload_n dX9_alike_35 rfl ?_
    refine y_callV2 (M' := M_X9_areAlike) dX9_alike_36 lm_X9_225 cv_X9_areAlike rfl (Nat.le_of_ble_eq_true rfl) (Nat.le_of_ble_eq_true rfl) rfl (m_areAlike hp (PM_S hM hS) (PG_S hG p73 hS) hV hc (v := i) (by omega) _) (fun r mu2 nu2 hq2 => ?_)
    obtain ⟨rfl, rfl, hS2⟩ := hq2
    refine zb_if_eq (tgt := 48) dX9_alike_39 (by decide) (fun hc39 => ?_) (fun hc39 => ?_)
    · refine z_iconst (v := nI 0) dX9_alike_48 rfl ?_
      refine zn_ior dX9_alike_49 ?_
      refine z_istore2 dX9_alike_50 rfl ?_
      refine zn_iinc3 dX9_alike_51 rfl ?_
      refine z_goto (tgt := 19) dX9_alike_54 (by decide) ?_
      rw [Nat.or_zero, bset_f hc39]; exact ih (i + 1) mu2 (by omega) (S81_tr hS hS2)
    · refine z_iconst (v := nI 1) dX9_alike_42 rfl ?_
      refine z_iload_n dX9_alike_43 rfl ?_
      refine zn_ishl dX9_alike_44 (by omega) (by have : 1 * 2 ^ i ≤ 1 * 2 ^ 20 := Nat.mul_le_mul_left 1 (Nat.pow_le_pow_right (by decide) (by omega)); omega) ?_
      refine z_goto (tgt := 49) dX9_alike_45 (by decide) ?_
      refine zn_ior dX9_alike_49 ?_
      refine z_istore2 dX9_alike_50 rfl ?_
      refine zn_iinc3 dX9_alike_51 rfl ?_
      refine z_goto (tgt := 19) dX9_alike_54 (by decide) ?_
      rw [bset_t hc39]; exact ih (i + 1) mu2 (by omega) (S81_tr hS hS2)
set_option maxRecDepth 4000 in
theorem r_alike {X : zX} {mu : zmu} {nu : znu} {A : AS} (hA : AV A) (hC : MR A mu nu) (x : Int32) (d : Nat) : zJ X M_X9_alike (d + 10) 0 0 0 [.ref 66, .int x, zu, zu] [] 86 (zEE (mu) (nu)) (zlift (QM (f_alike A x) mu nu)) := by
  have hp := hA.1
  have hV := hA.2.1
  have h20 : pw (aP A) * ph (aP A) ≤ 20 := hA.n
  have h5 := hA.b
  refine z_aload_n dX9_alike_0 rfl ?_
  refine z_iconst (v := nI 0) dX9_alike_1 rfl ?_
  refine y_putI dX9_alike_2 lp_X9_75 rfl rfl ?_
  refine zJ_mono (Q := QM (f_alike A x) (u2 mu 66 0 (nI 0)) nu) ?_ QM_th
  replace hC := MR_m hC (Sm_th (mu := mu) (v := nI 0)) rfl
  generalize u2 mu 66 0 (nI 0) = mu at hC ⊢
  obtain ⟨hM, hG, hB, hKe, hE, hT, hD⟩ := id hC
  refine z_aload_n dX9_alike_5 rfl ?_
  refine z_iload_n dX9_alike_6 rfl ?_
  refine y_callV1x (M' := M_X9_noCell) dX9_alike_7 lm_X9_180 cv_X9_noCell rfl (Nat.le_of_ble_eq_true rfl) (Nat.le_of_ble_eq_true rfl) rfl (m_noCell hp hM x _) ?_
  refine zb_if_eq (tgt := 15) dX9_alike_10 (by decide) (fun hc10 => ?_) (fun hc10 => ?_)
  · have g0 : inr x (pw (aP A) * ph (aP A)) = true := by simpa using hc10
    have g : inr x (an A) = true := g0
    obtain ⟨c, hc, rfl⟩ := inr_t (show inr x (pw (aP A) * ph (aP A)) = true from g) (by omega)
    refine z_iconst (v := nI 0) dX9_alike_15 rfl ?_
    refine z_istore2 dX9_alike_16 rfl ?_
    refine z_iconst (v := nI 0) dX9_alike_17 rfl ?_
    refine z_istore3 dX9_alike_18 rfl ?_
    have e : f_alike A (nI c) = (nI (bset (lke (aP A) (aN A).2 c) (an A)), A) := by simp [f_alike, g, ix_nI (show c < 2 ^ 31 by omega)]
    rw [e]
    exact r_alike_l hA hC hc d (pw (aP A) * ph (aP A)) 0 mu (by omega) S81_rf
  · have g0 : inr x (pw (aP A) * ph (aP A)) = false := by simpa using hc10
    have g : inr x (an A) = false := g0
    refine z_iconst (v := -1) dX9_alike_13 rfl ?_
    exact y_ireturn dX9_alike_14 rfl (QM_rf hC (by simp [f_alike, g]))
set_option maxRecDepth 4000 in
theorem r_match_l {X : zX} {mu : zmu} {nu : znu} {A : AS} (hA : AV A) (hC : MR A mu nu) {x : Int32} (hx : x = 0 ∨ x = nI 1) (d : Nat) : ∀ n i mu1, i + n = ph (aP A) → 1 ≤ i → Sm mu mu1 → mu1 66 31 = nI (mtc (unl (aP A) (aN A).2) (i - 1)).2 → zJ X M_X9_match (d + 10) 0 0 31 [.ref 66, .int x, .int (nI (mtc (unl (aP A) (aN A).2) (i - 1)).1), .int (nI i), zu] [] 86 (zEE (mu1) (nu)) (zlift (QM (f_match A x) mu nu)) := by
  intro n
  induction n with
  | zero =>
    intro i mu1 hi
    have hp := hA.1
    have hV := hA.2.1
    have h20 : pw (aP A) * ph (aP A) ≤ 20 := hA.n
    have h5 := hA.b
    have hh4 := hp.2.2.2.1
    have hm4 := mtc_le (u := unl (aP A) (aN A).2) (m := 4) (fun i => by have := bcnt_le (ulr (aP A) (aN A).2 i) (ph (aP A)); unfold unl; omega) (i - 1)
    have hub : unl (aP A) (aN A).2 i < 2 ^ 31 := by have := bcnt_le (ulr (aP A) (aN A).2 i) (ph (aP A)); unfold unl; omega
    intro h1 hS hu
    obtain ⟨hM, hG, -⟩ := MR_s hC hS
    obtain rfl : i = ph (aP A) := by omega
    refine z_iload_n dX9_match_31 rfl ?_
    refine z_aload_n dX9_match_32 rfl ?_
    refine y_getIe dX9_match_33 lf_X9_17 rfl rfl hM.2.1 ?_
    refine zn_icmp_ge (tgt := 89) dX9_match_36 (by decide) (by omega) (by omega) (fun hc36 => ?_) (fun hc36 => by exact absurd hc36 (Nat.lt_irrefl _))
    refine z_iload_n dX9_match_89 rfl ?_
    refine z_if_ne (tgt := 97) dX9_match_90 (by decide) (fun hc90 => ?_) (fun hc90 => ?_)
    · refine z_aload_n dX9_match_97 rfl ?_
      refine y_getIe dX9_match_98 lf_X9_237 rfl rfl hu ?_
      exact y_ireturn dX9_match_101 rfl (QM_m hC hS (by rcases hx with rfl | rfl <;> simp_all [f_match, mtA]))
    · refine z_iload_n dX9_match_93 rfl ?_
      refine z_goto (tgt := 101) dX9_match_94 (by decide) ?_
      exact y_ireturn dX9_match_101 rfl (QM_m hC hS (by rcases hx with rfl | rfl <;> simp_all [f_match, mtA]))
  | succ n ih =>
    intro i mu1 hi
    have hp := hA.1
    have hV := hA.2.1
    have h20 : pw (aP A) * ph (aP A) ≤ 20 := hA.n
    have h5 := hA.b
    have hh4 := hp.2.2.2.1
    have hm4 := mtc_le (u := unl (aP A) (aN A).2) (m := 4) (fun i => by have := bcnt_le (ulr (aP A) (aN A).2 i) (ph (aP A)); unfold unl; omega) (i - 1)
    have hub : unl (aP A) (aN A).2 i < 2 ^ 31 := by have := bcnt_le (ulr (aP A) (aN A).2 i) (ph (aP A)); unfold unl; omega
    intro h1 hS hu
    obtain ⟨hM, hG, -⟩ := MR_s hC hS
    refine z_iload_n dX9_match_31 rfl ?_
    refine z_aload_n dX9_match_32 rfl ?_
    refine y_getIe dX9_match_33 lf_X9_17 rfl rfl hM.2.1 ?_
    refine zn_icmp_ge (tgt := 89) dX9_match_36 (by decide) (by omega) (by omega) (fun hc36 => by omega) (fun hc36 => ?_)
    refine z_aload_n dX9_match_39 rfl ?_
    refine z_iload_n dX9_match_40 rfl ?_
    refine y_callV1x (M' := M_X9_unlikeBy) dX9_match_41 lm_X9_234 cv_X9_unlikeBy rfl (Nat.le_of_ble_eq_true rfl) (Nat.le_of_ble_eq_true rfl) rfl (m_unlikeBy hp hM hG hV hc36 _) ?_
    refine z_istore4 dX9_match_44 rfl ?_
    refine z_iload dX9_match_46 rfl ?_
    refine z_aload_n dX9_match_48 rfl ?_
    refine y_getIe dX9_match_49 lf_X9_237 rfl rfl hu ?_
    refine zn_icmp_ge (tgt := 59) dX9_match_52 (by decide) hub (by have := hm4.2; omega) (fun hc52 => ?_) (fun hc52 => ?_)
    · refine z_iload_n dX9_match_59 rfl ?_
      refine z_istore2 dX9_match_60 rfl ?_
      refine z_aload_n dX9_match_61 rfl ?_
      refine z_iload dX9_match_62 rfl ?_
      refine z_aload_n dX9_match_64 rfl ?_
      refine y_getIe dX9_match_65 lf_X9_237 rfl rfl hu ?_
      refine zn_icmp_ge (tgt := 76) dX9_match_68 (by decide) hub (by have := hm4.2; omega) (fun hc68 => ?_) (fun hc68 => by omega)
      refine z_aload_n dX9_match_76 rfl ?_
      refine y_getIe dX9_match_77 lf_X9_237 rfl rfl hu ?_
      refine y_putI dX9_match_80 lp_X9_237 rfl rfl ?_
      refine zn_iinc3 dX9_match_83 rfl ?_
      refine z_goto (tgt := 31) dX9_match_86 (by decide) ?_
      have e : mtc (unl (aP A) (aN A).2) i = mtc (unl (aP A) (aN A).2) (i - 1) := by rw [show i = (i - 1) + 1 by omega, mtc_s, show i - 1 + 1 = i by omega, if_neg (by omega)]
      have k := ih (i + 1) (u2 mu1 66 31 (nI (mtc (unl (aP A) (aN A).2) i).2)) (by omega) (by omega) (Sm_tr hS (Sm_u (by unfold live; omega))) u2_s
      rw [show i + 1 - 1 = i by omega, e] at k
      exact z_sub k ⟨Or.inr rfl, Or.inr rfl, Or.inr rfl, Or.inr rfl, Or.inl rfl, trivial⟩
    · refine z_iload_n dX9_match_55 rfl ?_
      refine z_goto (tgt := 60) dX9_match_56 (by decide) ?_
      refine z_istore2 dX9_match_60 rfl ?_
      refine z_aload_n dX9_match_61 rfl ?_
      refine z_iload dX9_match_62 rfl ?_
      refine z_aload_n dX9_match_64 rfl ?_
      refine y_getIe dX9_match_65 lf_X9_237 rfl rfl hu ?_
      refine zn_icmp_ge (tgt := 76) dX9_match_68 (by decide) hub (by have := hm4.2; omega) (fun hc68 => by omega) (fun hc68 => ?_)
      refine z_iload dX9_match_71 rfl ?_
      refine z_goto (tgt := 80) dX9_match_73 (by decide) ?_
      refine y_putI dX9_match_80 lp_X9_237 rfl rfl ?_
      refine zn_iinc3 dX9_match_83 rfl ?_
      refine z_goto (tgt := 31) dX9_match_86 (by decide) ?_
      have e : mtc (unl (aP A) (aN A).2) i = (i, unl (aP A) (aN A).2 i) := by rw [show i = (i - 1) + 1 by omega, mtc_s, show i - 1 + 1 = i by omega, if_pos (by omega)]
      have k := ih (i + 1) (u2 mu1 66 31 (nI (mtc (unl (aP A) (aN A).2) i).2)) (by omega) (by omega) (Sm_tr hS (Sm_u (by unfold live; omega))) u2_s
      rw [show i + 1 - 1 = i by omega, e] at k
      exact z_sub k ⟨Or.inr rfl, Or.inr rfl, Or.inr rfl, Or.inr rfl, Or.inl rfl, trivial⟩
set_option maxRecDepth 4000 in
theorem r_match {X : zX} {mu : zmu} {nu : znu} {A : AS} (hA : AV A) (hC : MR A mu nu) (x : Int32) (d : Nat) : zJ X M_X9_match (d + 10) 0 0 0 [.ref 66, .int x, zu, zu, zu] [] 86 (zEE (mu) (nu)) (zlift (QM (f_match A x) mu nu)) := by
  have hp := hA.1
  have hV := hA.2.1
  have h20 : pw (aP A) * ph (aP A) ≤ 20 := hA.n
  have h5 := hA.b
  have hh2 := hp.2.2.1
  refine z_aload_n dX9_match_0 rfl ?_
  refine z_iconst (v := nI 0) dX9_match_1 rfl ?_
  refine y_putI dX9_match_2 lp_X9_75 rfl rfl ?_
  refine zJ_mono (Q := QM (f_match A x) (u2 mu 66 0 (nI 0)) nu) ?_ QM_th
  replace hC := MR_m hC (Sm_th (mu := mu) (v := nI 0)) rfl
  generalize u2 mu 66 0 (nI 0) = mu at hC ⊢
  obtain ⟨hM, hG, hB, hKe, hE, hT, hD⟩ := id hC
  refine z_iload_n dX9_match_5 rfl ?_
  refine z_i2l dX9_match_6 ?_
  refine z_lconst (v := 0) dX9_match_7 rfl ?_
  refine z_lconst (v := 1) dX9_match_8 rfl ?_
  refine y_callS3x (M' := M_X9_in) dX9_match_9 lm_X9_81 cs_X9_in (Nat.le_of_ble_eq_true rfl) (Nat.le_of_ble_eq_true rfl) rfl (m_in _ _ _ _) ?_
  rw [in_01]
  refine zb_if_ne (tgt := 18) dX9_match_12 (by decide) (fun hc12 => ?_) (fun hc12 => ?_)
  · refine z_iconst (v := nI 0) dX9_match_18 rfl ?_
    refine z_istore2 dX9_match_19 rfl ?_
    refine z_aload_n dX9_match_20 rfl ?_
    refine z_aload_n dX9_match_21 rfl ?_
    refine z_iconst (v := nI 0) dX9_match_22 rfl ?_
    refine y_callV1x (M' := M_X9_unlikeBy) dX9_match_23 lm_X9_234 cv_X9_unlikeBy rfl (Nat.le_of_ble_eq_true rfl) (Nat.le_of_ble_eq_true rfl) rfl (m_unlikeBy hp hM hG hV (show 0 < ph (aP A) by omega) _) ?_
    refine y_putI dX9_match_26 lp_X9_237 rfl rfl ?_
    refine z_iconst (v := nI 1) dX9_match_29 rfl ?_
    refine z_istore3 dX9_match_30 rfl ?_
    exact r_match_l hA hC (inr2_t hc12) d (ph (aP A) - 1) 1 _ (by omega) (by omega) (Sm_u (by unfold live; omega)) u2_s
  · have g := inr2_f hc12
    refine z_bipush (v := -2) dX9_match_15 rfl ?_
    exact y_ireturn dX9_match_17 rfl (QM_rf hC (by simp [f_match, g.1, g.2]))
