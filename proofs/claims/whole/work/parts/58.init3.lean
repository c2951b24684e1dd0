theorem gI {x : zE} {n : Nat} (h : 0 < n) : va_up EI 0 x n = EI n := va_up_ne _ _ (by omega)
theorem gJ {x y : zE} {n : Nat} (h : 44 < n) : va_up (va_up EI 44 y) 0 x n = EI n := (va_up_ne _ _ (by omega)).trans (va_up_ne _ _ (by omega))
def yS (a b : Option Nat) : zE := .inl (2, 2, .inr (.inr (.inr (.inr (fun j => if j = 0 then a else if j = 1 then b else none)))))
theorem yS_0 : (Sum.inl (2, 2, .inr (.inr (.inr (.inr (fun _ => none))))) : zE) = yS none none := by
  refine congrArg (fun f => (Sum.inl (2, 2, .inr (.inr (.inr (.inr f)))) : zE)) (funext fun j => ?_)
  split
  · rfl
  · split <;> rfl
theorem yS_2 : EI 44 = yS (some 62) (some 64) := by
  unfold EI
  rw [zEE_refs (a := 44) (n := 2) (t := [62, 64]) rfl]
  refine congrArg (fun f => (Sum.inl (2, 2, .inr (.inr (.inr (.inr f)))) : zE)) (funext fun j => ?_)
  match j with
  | 0 => rfl
  | 1 => rfl
  | j + 2 => rfl
theorem i_slot {X : zX} {M : zM} {d k q pc i v : Nat} {L S : List Value} {n : Nat} {a b a' b' : Option Nat} {x : zE} {Q : zQ} (hd : decode M.2.1 pc = .ok (.aastore, 1)) (hi : i < 2) (hs : sAt v) (hv : 44 < v) (hvn : v < n) (hn : 44 < n) (hv2 : v < 86) (ha : a' = if i = 0 then some v else a) (hb : b' = if i = 1 then some v else b) (kk : zJ X M d k q (pc + 1) L S n (va_up (va_up EI 44 (yS a' b')) 0 x) Q) : zJ X M d k q pc L (.ref v :: .int (nI i) :: .ref 44 :: S) n (va_up (va_up EI 44 (yS a b)) 0 x) Q := by
  obtain ⟨vs, hvs⟩ := EI_s hs
  refine z_aast (f := fun j => if j = 0 then a else if j = 1 then b else none) (N := 2) (vs := vs) hd ((va_up_ne _ _ (by decide)).trans (va_up_self _ _ _)) (by omega) (by decide) ((gJ hv).trans hvs) hvn (by omega) (vp_in_nI hi (by omega)) ?_
  refine z_eqh kk (Eq.symm ?_)
  rw [up_cm (by decide), up_up, nI_clamp (by omega)]
  refine congrArg (fun f => va_up (va_up EI 44 (Sum.inl (2, 2, .inr (.inr (.inr (.inr f)))) : zE)) 0 x) (funext fun j => ?_)
  unfold va_up
  subst ha hb
  by_cases h1 : j = i
  · rw [if_pos h1]
    obtain rfl | rfl : i = 0 ∨ i = 1 := by omega
    · rw [if_pos h1, if_pos rfl]
    · rw [if_neg (by omega), if_pos h1, if_pos rfl]
  · rw [if_neg h1]
    show (if j = 0 then a else if j = 1 then b else none) = _
    by_cases h2 : j = 0
    · have h4 : ¬ i = 0 := by omega
      simp [h2, h4]
    · by_cases h3 : j = 1
      · have h4 : ¬ i = 1 := by omega
        simp [h3, h4]
      · simp [h2, h3]
set_option maxRecDepth 8000 in
set_option maxHeartbeats 4000000 in
theorem n_X8 {X : zX} (d : Nat) : zJ X M_X8_init (d + 5) 65 2540 0 [.ref 0, zu] [] 1 (va_up EI 0 (.inr (8, [.null, .null, .null, .null, .null, .null, .null, .null, .null, .null, .null, .null, .long 0]))) (zno 66 (va_up EI 0 (EI 0))) := by
  refine z_aload_n dX8_init_0 rfl ?_
  refine z_objInit dX8_init_1 lm_X8_3 im_objinit co_objinit (Nat.le_of_ble_eq_true rfl) (by omega) ?_
  refine z_aload_n dX8_init_4 rfl ?_
  refine i_make (M' := M_X7_init) (k := 63) (q := 2490) (k1 := 1) (q1 := 48) (N := 2) (n := 1) (m := 3) (pcc := 12) (Lc := [.ref 1]) dX8_init_5 lc_X8_9 (by decide) dX8_init_8 dX8_init_9 (Or.inr ⟨_, ln_X8_11⟩) im_X7_init rfl rfl cal_X7_init (Nat.le_of_ble_eq_true rfl) (Nat.le_of_ble_eq_true rfl) rfl (gI (by decide)) rfl (n_X7 (fun a ha => gI (by omega)) _) ?_
  refine i_putF dX8_init_12 lp_X8_12 rfl (by decide) (by decide) (fun _ _ => ⟨rfl, rfl⟩) (by decide) ?_
  refine z_aload_n dX8_init_15 rfl ?_
  refine i_make (M' := M_X3_init) (k := 56) (q := 2209) (k1 := 6) (q1 := 270) (N := 11) (n := 3) (m := 10) (pcc := 23) (Lc := [.ref 3]) dX8_init_16 lc_X8_16 (by decide) dX8_init_19 dX8_init_20 (Or.inl lm_X8_18) im_X3_init rfl rfl cal_X3_init (Nat.le_of_ble_eq_true rfl) (Nat.le_of_ble_eq_true rfl) rfl (gI (by decide)) rfl (n_X3 (fun a ha => gI (by omega)) _) ?_
  refine i_putF dX8_init_23 lp_X8_19 rfl (by decide) (by decide) (fun _ _ => ⟨rfl, rfl⟩) (by decide) ?_
  refine z_aload_n dX8_init_26 rfl ?_
  refine z_new (k := 55) (q := 2206) (N := 3) (n := 10) dX8_init_27 lc_X8_23 (by decide) ?_
  refine z_dup dX8_init_30 rfl ?_
  refine z_aload_n dX8_init_31 rfl ?_
  refine z_getf dX8_init_32 lf_X8_19 ((va_up_ne _ _ (by decide)).trans (va_up_self _ _ _)) (by decide) (by decide) rfl ?_
  refine i_callS (k := 54) (q := 2201) (n := 10) dX8_init_35 lm_X8_25 ⟨rfl, rfl⟩ (by decide) (Nat.le_of_ble_eq_true rfl) (gI (by decide)) (fun b hb => gI (by omega)) ?_
  refine i_putF dX8_init_38 lp_X8_28 rfl (by decide) (by decide) (fun _ _ => ⟨rfl, rfl⟩) (by decide) ?_
  refine z_aload_n dX8_init_41 rfl ?_
  refine z_new (k := 53) (q := 2198) (N := 3) (n := 12) dX8_init_42 lc_X8_23 (by decide) ?_
  refine z_dup dX8_init_45 rfl ?_
  refine z_aload_n dX8_init_46 rfl ?_
  refine z_getf dX8_init_47 lf_X8_19 ((va_up_ne _ _ (by decide)).trans (va_up_self _ _ _)) (by decide) (by decide) rfl ?_
  refine i_callS (k := 52) (q := 2193) (n := 12) dX8_init_50 lm_X8_25 ⟨rfl, rfl⟩ (by decide) (Nat.le_of_ble_eq_true rfl) (gI (by decide)) (fun b hb => gI (by omega)) ?_
  refine i_putF dX8_init_53 lp_X8_32 rfl (by decide) (by decide) (fun _ _ => ⟨rfl, rfl⟩) (by decide) ?_
  refine z_aload_n dX8_init_56 rfl ?_
  refine z_new (k := 51) (q := 2190) (N := 3) (n := 14) dX8_init_57 lc_X8_35 (by decide) ?_
  refine z_dup dX8_init_60 rfl ?_
  refine z_aload_n dX8_init_61 rfl ?_
  refine z_getf dX8_init_62 lf_X8_19 ((va_up_ne _ _ (by decide)).trans (va_up_self _ _ _)) (by decide) (by decide) rfl ?_
  refine zCallI (M' := M_X0_init) (As := [.ref 3]) (k1 := 29) (q1 := 126) (k := 22) (q := 2064) dX8_init_65 lm_X8_37 im_X0_init rfl rfl (by decide) cal_X0_init rfl (Nat.le_of_ble_eq_true rfl) (Nat.le_of_ble_eq_true rfl) rfl (n_X0 (fun a ha => gI (by omega)) _) ?_
  rintro r n' h' ⟨rfl, rfl, rfl⟩
  rw [up_id (gI (n := 14) (by decide))]
  refine i_putF dX8_init_68 lp_X8_38 rfl (by decide) (by decide) (fun _ _ => ⟨rfl, rfl⟩) (by decide) ?_
  refine z_aload_n dX8_init_71 rfl ?_
  refine z_iconst (v := nI 2) dX8_init_72 rfl ?_
  refine i_newq (k := 21) (q := 2062) (N := 2) (n := 44) (a := 0) dX8_init_73 lcl_X8_23 (by decide) (by decide) (by decide) ?_
  rw [yS_0]
  refine i_putF dX8_init_76 lp_X8_42 rfl (by decide) (by decide) (fun _ _ => ⟨rfl, rfl⟩) (by decide) ?_
  refine z_aload_n dX8_init_79 rfl ?_
  refine z_iconst (v := nI 2) dX8_init_80 rfl ?_
  refine i_newz (k := 20) (q := 2060) (N := 2) (n := 45) dX8_init_81 (by decide) (by decide) ((gJ (by decide)).trans (EI_z rfl (by decide))) ?_
  refine i_putF dX8_init_83 lp_X8_46 rfl (by decide) (by decide) (fun _ _ => ⟨rfl, rfl⟩) (by decide) ?_
  refine z_aload_n dX8_init_86 rfl ?_
  refine i_make (M' := M_X5_init) (k := 16) (q := 91) (k1 := 3) (q1 := 1965) (N := 4) (n := 46) (m := 50) (pcc := 94) (Lc := [.ref 46]) dX8_init_87 lc_X8_50 (by decide) dX8_init_90 dX8_init_91 (Or.inr ⟨_, ln_X8_52⟩) im_X5_init rfl rfl cal_X5_init (Nat.le_of_ble_eq_true rfl) (Nat.le_of_ble_eq_true rfl) rfl (gJ (by decide)) rfl (n_X5 (fun a ha => gJ (by omega)) _) ?_
  refine i_putF dX8_init_94 lp_X8_53 rfl (by decide) (by decide) (fun _ _ => ⟨rfl, rfl⟩) (by decide) ?_
  refine z_aload_n dX8_init_97 rfl ?_
  refine i_make (M' := M_X1_init) (k := 14) (q := 58) (k1 := 1) (q1 := 32) (N := 1) (n := 50) (m := 52) (pcc := 105) (Lc := [.ref 50]) dX8_init_98 lc_X8_57 (by decide) dX8_init_101 dX8_init_102 (Or.inr ⟨_, ln_X8_59⟩) im_X1_init rfl rfl cal_X1_init (Nat.le_of_ble_eq_true rfl) (Nat.le_of_ble_eq_true rfl) rfl (gJ (by decide)) rfl (n_X1 (fun a ha => gJ (by omega)) _) ?_
  refine i_putF dX8_init_105 lp_X8_60 rfl (by decide) (by decide) (fun _ _ => ⟨rfl, rfl⟩) (by decide) ?_
  refine z_aload_n dX8_init_108 rfl ?_
  refine i_make (M' := M_X6_init) (k := 10) (q := 36) (k1 := 3) (q1 := 18) (N := 4) (n := 52) (m := 56) (pcc := 116) (Lc := [.ref 52]) dX8_init_109 lc_X8_64 (by decide) dX8_init_112 dX8_init_113 (Or.inr ⟨_, ln_X8_66⟩) im_X6_init rfl rfl cal_X6_init (Nat.le_of_ble_eq_true rfl) (Nat.le_of_ble_eq_true rfl) rfl (gJ (by decide)) rfl (n_X6 (fun a ha => gJ (by omega)) _) ?_
  refine i_putF dX8_init_116 lp_X8_67 rfl (by decide) (by decide) (fun _ _ => ⟨rfl, rfl⟩) (by decide) ?_
  refine z_aload_n dX8_init_119 rfl ?_
  refine i_make (M' := M_X2_init) (k := 7) (q := 26) (k1 := 2) (q1 := 8) (N := 2) (n := 56) (m := 59) (pcc := 127) (Lc := [.ref 56]) dX8_init_120 lc_X8_71 (by decide) dX8_init_123 dX8_init_124 (Or.inr ⟨_, ln_X8_73⟩) im_X2_init rfl rfl cal_X2_init (Nat.le_of_ble_eq_true rfl) (Nat.le_of_ble_eq_true rfl) rfl (gJ (by decide)) rfl (n_X2 (fun a ha => gJ (by omega)) _) ?_
  refine i_putF dX8_init_127 lp_X8_74 rfl (by decide) (by decide) (fun _ _ => ⟨rfl, rfl⟩) (by decide) ?_
  refine z_aload_n dX8_init_130 rfl ?_
  refine i_make (M' := M_X2_init) (k := 4) (q := 16) (k1 := 2) (q1 := 8) (N := 2) (n := 59) (m := 62) (pcc := 138) (Lc := [.ref 59]) dX8_init_131 lc_X8_71 (by decide) dX8_init_134 dX8_init_135 (Or.inr ⟨_, ln_X8_73⟩) im_X2_init rfl rfl cal_X2_init (Nat.le_of_ble_eq_true rfl) (Nat.le_of_ble_eq_true rfl) rfl (gJ (by decide)) rfl (n_X2b (fun a ha => gJ (by omega)) _) ?_
  refine i_putF dX8_init_138 lp_X8_78 rfl (by decide) (by decide) (fun _ _ => ⟨rfl, rfl⟩) (by decide) ?_
  refine z_iconst (v := nI 0) dX8_init_141 rfl ?_
  refine z_istore1 dX8_init_142 rfl ?_
  refine z_iload_n dX8_init_143 rfl ?_
  refine z_iconst (v := nI 2) dX8_init_144 rfl ?_
  refine zn_icmp_ge (tgt := 171) dX8_init_145 (by decide) (by decide) (by decide) (fun hc => absurd hc (by decide)) (fun _ => ?_)
  refine z_aload_n dX8_init_148 rfl ?_
  refine i_getR dX8_init_149 lf_X8_42 (by decide) (by decide) rfl ?_
  refine z_iload_n dX8_init_152 rfl ?_
  refine z_new (k := 3) (q := 13) (N := 3) (n := 62) dX8_init_153 lc_X8_23 (by decide) ?_
  refine z_dup dX8_init_156 rfl ?_
  refine z_aload_n dX8_init_157 rfl ?_
  refine z_getf dX8_init_158 lf_X8_19 ((va_up_ne _ _ (by decide)).trans (va_up_self _ _ _)) (by decide) (by decide) rfl ?_
  refine i_callS (k := 2) (q := 8) (n := 62) dX8_init_161 lm_X8_25 ⟨rfl, rfl⟩ (by decide) (Nat.le_of_ble_eq_true rfl) (gJ (by decide)) (fun b hb => gJ (by omega)) ?_
  refine i_slot (i := 0) (v := 62) (a' := some 62) (b' := none) dX8_init_164 (by decide) ⟨rfl, rfl⟩ (by decide) (by decide) (by decide) (by decide) rfl rfl ?_
  refine zn_iinc1 dX8_init_165 rfl ?_
  refine z_goto (tgt := 143) dX8_init_168 (by decide) ?_
  refine z_iload_n dX8_init_143 rfl ?_
  refine z_iconst (v := nI 2) dX8_init_144 rfl ?_
  refine zn_icmp_ge (tgt := 171) dX8_init_145 (by decide) (by decide) (by decide) (fun hc => absurd hc (by decide)) (fun _ => ?_)
  refine z_aload_n dX8_init_148 rfl ?_
  refine i_getR dX8_init_149 lf_X8_42 (by decide) (by decide) rfl ?_
  refine z_iload_n dX8_init_152 rfl ?_
  refine z_new (k := 1) (q := 5) (N := 3) (n := 64) dX8_init_153 lc_X8_23 (by decide) ?_
  refine z_dup dX8_init_156 rfl ?_
  refine z_aload_n dX8_init_157 rfl ?_
  refine z_getf dX8_init_158 lf_X8_19 ((va_up_ne _ _ (by decide)).trans (va_up_self _ _ _)) (by decide) (by decide) rfl ?_
  refine i_callS (k := 0) (q := 0) (n := 64) dX8_init_161 lm_X8_25 ⟨rfl, rfl⟩ (by decide) (Nat.le_of_ble_eq_true rfl) (gJ (by decide)) (fun b hb => gJ (by omega)) ?_
  refine i_slot (i := 1) (v := 64) (a' := some 62) (b' := some 64) dX8_init_164 (by decide) ⟨rfl, rfl⟩ (by decide) (by decide) (by decide) (by decide) rfl rfl ?_
  refine zn_iinc1 dX8_init_165 rfl ?_
  refine z_goto (tgt := 143) dX8_init_168 (by decide) ?_
  refine z_iload_n dX8_init_143 rfl ?_
  refine z_iconst (v := nI 2) dX8_init_144 rfl ?_
  refine zn_icmp_ge (tgt := 171) dX8_init_145 (by decide) (by decide) (by decide) (fun _ => ?_) (fun hc => absurd hc (by decide))
  exact i_ret dX8_init_171 rfl rfl (by rw [← yS_2, up_id rfl]; exact congrArg (va_up EI 0) rfl)
