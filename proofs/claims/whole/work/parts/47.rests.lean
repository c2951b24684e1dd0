theorem goS_2 (p : PT) (s : SC) (b y : Nat) : (goS p s b y).2 = s.2 := by unfold goS; split <;> rfl
theorem goS_ne (p : PT) (s : SC) {b x : Nat} (y : Nat) (h : x ≠ b) : (goS p s b y).1 x = s.1 x := by
  unfold goS; split
  · rfl
  · show (if x = b then _ else s.1 x) = s.1 x; rw [if_neg h]
theorem goS_at (p : PT) (s : SC) (b y : Nat) : (goS p s b y).1 b % 20 = goc p s.2 b (s.1 b) y := by
  unfold goS goc
  cases h : pon p s.2 b (s.1 b) y with
  | none => rfl
  | some q => show (if b = b then q else s.1 b) % 20 = q % 20; rw [if_pos rfl]
theorem wth_ref (p : PT) (cut a b pa pb' y z : Nat) : wth (goa p cut a pa) (goc p cut a pa) (goc p cut b pb') y z = (if goc p cut a pa y = goc p cut b pb' z then 3 else 0) + (if (pon p cut a pa y).isSome = true then 1 else 0) + (if kdk (pK p) cut (goc p cut a pa y) = 3 then 1 else 0) := by
  unfold wth goa; omega
def G1 (p : PT) (s : SC) (a b k : Nat) : Nat := wth (goa p s.2 a (s.1 a)) (goc p s.2 a (s.1 a)) (goc p s.2 b (s.1 b)) (k / 4) (k % 4)
def G2 (p : PT) (s : SC) (a b k : Nat) : Nat := wth (goa p s.2 b (s.1 b)) (goc p s.2 b (s.1 b)) (goc p s.2 a (s.1 a)) (k % 4) (k / 4)
def Sl (mu mu1 : zmu) : Prop := ∀ x, x ≠ 81 → x ≠ 74 → x ≠ 84 → mu1 x = mu x
theorem Sl_tr {m1 m2 m3 : zmu} (h : Sl m1 m2) (g : Sl m2 m3) : Sl m1 m3 := fun x a b c => (g x a b c).trans (h x a b c)
theorem Sl_8 {mu mu1 : zmu} (h : S8a 74 mu mu1) : Sl mu mu1 := fun x a b _ => h x a b
theorem Sl_u {mu : zmu} {k : Nat} {v : Int32} : Sl mu (u2 mu 84 k v) := fun x _ _ c => u2_rowa c
theorem Sm_l {mu mu1 : zmu} (h : Sl mu mu1) : Sm mu mu1 := fun a j hl => congrFun (h a (by unfold live at hl; omega) (by unfold live at hl; omega) (by unfold live at hl; omega)) j
theorem PM_l {p : PT} {mu mu1 : zmu} (h : PM p mu) (e : Sl mu mu1) : PM p mu1 := PM_m h (Sm_l e)
def Ql (p : PT) (s : SC) (a b k : Nat) (mu : zmu) (nu : znu) : zq := fun r mu1 nu1 => r = none ∧ nu1 = nu ∧ Sl mu mu1 ∧ mu1 84 (2 * k) = nI (G1 p s a b k) ∧ mu1 84 (2 * k + 1) = nI (G2 p s a b k) ∧ ∀ j, j ≠ 2 * k → j ≠ 2 * k + 1 → mu1 84 j = mu 84 j
set_option maxRecDepth 4000 in
theorem m_layGains {X : zX} {mu : zmu} {nu : znu} {p : PT} {s : SC} (hp : PV p) (hM : PM p mu) (hG : PG p s 73 mu) (hV : SVs p s) {a b k : Nat} (ha : a < pb p) (hb : b < pb p) (hab : a ≠ b) (hk : k < 16) (d : Nat) : zJ X M_X9_layGains (d + 5) 0 0 0 [.ref 66, .int (nI a), .int (nI b), .int (nI k), zu, zu, zu] [] 86 (zEE (mu) (nu)) (zlift (Ql p s a b k mu nu)) := by
  have h5 := hp.2.2.2.2.2.1
  have h20 := hp.n20
  have hk4 : k / 4 < 4 := by omega
  have hm4 : k % 4 < 4 := by omega
  have hM1 : PM p (uR mu 74 (cpo 0 (mu 73) (mu 74) 16)) := PM_8 hM p74 S8_begin
  have hG1 := PG_begin hp hG
  have hca := goc_lt hp (cut := s.2) ha (hV.1 a ha).1 (hV.1 a ha).2 hk4
  have hcb := goc_lt hp (cut := s.2) hb (hV.1 b hb).1 (hV.1 b hb).2 hm4
  have hka := kdk_le hp (cut := s.2) hca
  have hkb := kdk_le hp (cut := s.2) hcb
  have eC : (goS p (goS p s a (k / 4)) b (k % 4)).2 = s.2 := (goS_2 _ _ _ _).trans (goS_2 _ _ _ _)
  have eA : (goS p (goS p s a (k / 4)) b (k % 4)).1 a % 20 = goc p s.2 a (s.1 a) (k / 4) := by rw [goS_ne _ _ _ hab, goS_at]
  have e1 : (goS p s a (k / 4)).1 b = s.1 b := goS_ne _ _ _ (fun e => hab e.symm)
  have eB : (goS p (goS p s a (k / 4)) b (k % 4)).1 b % 20 = goc p s.2 b (s.1 b) (k % 4) := by rw [goS_at, goS_2, e1]
  have hV2 := SVs_go hp hV ha hk4
  have hV3 := SVs_go hp hV2 hb hm4
  refine z_aload_n dX9_layGains_0 rfl ?_
  refine y_callV0x (M' := M_X9_begin) dX9_layGains_1 lm_X9_248 cv_X9_begin rfl (Nat.le_of_ble_eq_true rfl) (Nat.le_of_ble_eq_true rfl) rfl (m_begin _) ?_
  refine z_aload_n dX9_layGains_4 rfl ?_
  refine z_aload_n dX9_layGains_5 rfl ?_
  refine y_getR dX9_layGains_6 lf_X9_38 rfl rfl ?_
  refine z_iload_n dX9_layGains_9 rfl ?_
  refine z_iload_n dX9_layGains_10 rfl ?_
  refine z_iconst (v := nI 4) dX9_layGains_11 rfl ?_
  refine zn_idiv dX9_layGains_12 (by omega) (by omega) (by omega) ?_
  refine y_callV3 (M' := M_X9_goStep) dX9_layGains_13 lm_X9_200 cv_X9_goStep rfl (Nat.le_of_ble_eq_true rfl) (Nat.le_of_ble_eq_true rfl) rfl (m_goStep hp hM1 p74 hG1 hV ha hk4 _) (fun r mu1 nu1 hq => ?_)
  obtain ⟨rfl, rfl, hG2, hS2⟩ := hq
  have hM2 := PM_8 hM1 p74 hS2
  refine z_istore4 dX9_layGains_16 rfl ?_
  refine z_aload_n dX9_layGains_18 rfl ?_
  refine z_aload_n dX9_layGains_19 rfl ?_
  refine y_getR dX9_layGains_20 lf_X9_38 rfl rfl ?_
  refine z_iload_n dX9_layGains_23 rfl ?_
  refine z_iload_n dX9_layGains_24 rfl ?_
  refine z_iconst (v := nI 4) dX9_layGains_25 rfl ?_
  refine zn_irem dX9_layGains_26 (by omega) (by omega) (by omega) ?_
  refine y_callV3 (M' := M_X9_goStep) dX9_layGains_27 lm_X9_200 cv_X9_goStep rfl (Nat.le_of_ble_eq_true rfl) (Nat.le_of_ble_eq_true rfl) rfl (m_goStep hp hM2 p74 hG2 hV2 hb hm4 _) (fun r mu2 nu2 hq => ?_)
  obtain ⟨rfl, rfl, hG3, hS3⟩ := hq
  have hM3 := PM_8 hM2 p74 hS3
  rw [goS_2, e1]
  have hSl : Sl mu mu2 := Sl_tr (Sl_8 S8_begin) (Sl_tr (Sl_8 hS2) (Sl_8 hS3))
  refine z_istore5 dX9_layGains_30 rfl ?_
  refine z_aload_n dX9_layGains_32 rfl ?_
  refine y_getR dX9_layGains_33 lf_X9_38 rfl rfl ?_
  refine z_iload_n dX9_layGains_36 rfl ?_
  refine y_ialde dX9_layGains_37 rfl (by decide) (by omega) ((hG3.1 a ha).1.trans (congrArg nI eA)) ?_
  refine z_aload_n dX9_layGains_38 rfl ?_
  refine y_getR dX9_layGains_39 lf_X9_38 rfl rfl ?_
  refine z_iload_n dX9_layGains_42 rfl ?_
  refine y_ialde dX9_layGains_43 rfl (by decide) (by omega) ((hG3.1 b hb).1.trans (congrArg nI eB)) ?_
  refine zn_icmp_ne (tgt := 51) dX9_layGains_44 (by decide) (by omega) (by omega) (fun hc44 => ?_) (fun hc44 => ?_)
  · refine z_iconst (v := nI 0) dX9_layGains_51 rfl ?_
    refine z_istore6 dX9_layGains_52 rfl ?_
    refine z_aload_n dX9_layGains_54 rfl ?_
    refine y_getR dX9_layGains_55 lf_X9_69 rfl rfl ?_
    refine z_iconst (v := nI 2) dX9_layGains_58 rfl ?_
    refine z_iload_n dX9_layGains_59 rfl ?_
    refine zn_imul dX9_layGains_60 ?_
    refine z_iload dX9_layGains_61 rfl ?_
    refine z_iload dX9_layGains_63 rfl ?_
    refine zb_if_eq (tgt := 72) dX9_layGains_65 (by decide) (fun hc65 => ?_) (fun hc65 => ?_)
    · refine z_iconst (v := nI 0) dX9_layGains_72 rfl ?_
      refine zn_iadd dX9_layGains_73 ?_
      refine z_aload_n dX9_layGains_74 rfl ?_
      refine z_aload_n dX9_layGains_75 rfl ?_
      refine y_getR dX9_layGains_76 lf_X9_38 rfl rfl ?_
      refine z_aload_n dX9_layGains_79 rfl ?_
      refine y_getR dX9_layGains_80 lf_X9_38 rfl rfl ?_
      refine z_iload_n dX9_layGains_83 rfl ?_
      refine y_ialde dX9_layGains_84 rfl (by decide) (by omega) ((hG3.1 a ha).1.trans (congrArg nI eA)) ?_
      refine y_callV2x (M' := M_X9_kindOf) dX9_layGains_85 lm_X9_144 cv_X9_kindOf rfl (Nat.le_of_ble_eq_true rfl) (Nat.le_of_ble_eq_true rfl) rfl (m_kindOf hp hM3 p74 hG3 hV3 hca _) ?_
      rw [eC]
      refine z_iconst (v := nI 3) dX9_layGains_88 rfl ?_
      refine zn_icmp_ne (tgt := 96) dX9_layGains_89 (by decide) (by omega) (by omega) (fun hc89 => ?_) (fun hc89 => ?_)
      · refine z_iconst (v := nI 0) dX9_layGains_96 rfl ?_
        refine zn_iadd dX9_layGains_97 ?_
        refine y_iast dX9_layGains_98 rfl (by decide) (by omega) ?_
        refine z_aload_n dX9_layGains_99 rfl ?_
        refine y_getR dX9_layGains_100 lf_X9_69 rfl rfl ?_
        refine z_iconst (v := nI 2) dX9_layGains_103 rfl ?_
        refine z_iload_n dX9_layGains_104 rfl ?_
        refine zn_imul dX9_layGains_105 ?_
        refine z_iconst (v := nI 1) dX9_layGains_106 rfl ?_
        refine zn_iadd dX9_layGains_107 ?_
        refine z_iload dX9_layGains_108 rfl ?_
        refine z_iload dX9_layGains_110 rfl ?_
        refine zb_if_eq (tgt := 119) dX9_layGains_112 (by decide) (fun hc112 => ?_) (fun hc112 => ?_)
        · refine z_iconst (v := nI 0) dX9_layGains_119 rfl ?_
          refine zn_iadd dX9_layGains_120 ?_
          refine z_aload_n dX9_layGains_121 rfl ?_
          refine z_aload_n dX9_layGains_122 rfl ?_
          refine y_getR dX9_layGains_123 lf_X9_38 rfl rfl ?_
          refine z_aload_n dX9_layGains_126 rfl ?_
          refine y_getR dX9_layGains_127 lf_X9_38 rfl rfl ?_
          refine z_iload_n dX9_layGains_130 rfl ?_
          refine y_ialde dX9_layGains_131 rfl (by decide) (by omega) ((u2_a (by decide)).trans ((hG3.1 b hb).1.trans (congrArg nI eB))) ?_
          refine y_callV2x (M' := M_X9_kindOf) dX9_layGains_132 lm_X9_144 cv_X9_kindOf rfl (Nat.le_of_ble_eq_true rfl) (Nat.le_of_ble_eq_true rfl) rfl (m_kindOf hp (PM_l hM3 Sl_u) p74 (PG_e hG3 (u2_rowa (by decide))) hV3 hcb _) ?_
          rw [eC]
          refine z_iconst (v := nI 3) dX9_layGains_135 rfl ?_
          refine zn_icmp_ne (tgt := 143) dX9_layGains_136 (by decide) (by omega) (by omega) (fun hc136 => ?_) (fun hc136 => ?_)
          · refine z_iconst (v := nI 0) dX9_layGains_143 rfl ?_
            refine zn_iadd dX9_layGains_144 ?_
            refine y_iast dX9_layGains_145 rfl (by decide) (by omega) ?_
            exact y_return dX9_layGains_146 rfl ⟨rfl, rfl, Sl_tr hSl (Sl_tr Sl_u Sl_u), by rw [u2_k (by omega), u2_s]; exact nI_e (by rw [G1, wth_ref]; (first | rw [if_pos hc44] | rw [if_neg hc44]); (first | rw [if_pos hc65] | rw [if_neg (fun e => Bool.noConfusion (hc65.symm.trans e))]); (first | rw [if_pos hc89] | rw [if_neg hc89])), by rw [u2_s]; exact nI_e (by rw [G2, wth_ref]; (first | rw [if_pos hc44.symm] | rw [if_neg (fun e => hc44 e.symm)]); (first | rw [if_pos hc112] | rw [if_neg (fun e => Bool.noConfusion (hc112.symm.trans e))]); (first | rw [if_pos hc136] | rw [if_neg hc136])), fun j h1 h2 => by rw [u2_k h2, u2_k h1, hS3 84 (by decide) (by decide), hS2 84 (by decide) (by decide), uR_a (by decide)]⟩
          · refine z_iconst (v := nI 1) dX9_layGains_139 rfl ?_
            refine z_goto (tgt := 144) dX9_layGains_140 (by decide) ?_
            refine zn_iadd dX9_layGains_144 ?_
            refine y_iast dX9_layGains_145 rfl (by decide) (by omega) ?_
            exact y_return dX9_layGains_146 rfl ⟨rfl, rfl, Sl_tr hSl (Sl_tr Sl_u Sl_u), by rw [u2_k (by omega), u2_s]; exact nI_e (by rw [G1, wth_ref]; (first | rw [if_pos hc44] | rw [if_neg hc44]); (first | rw [if_pos hc65] | rw [if_neg (fun e => Bool.noConfusion (hc65.symm.trans e))]); (first | rw [if_pos hc89] | rw [if_neg hc89])), by rw [u2_s]; exact nI_e (by rw [G2, wth_ref]; (first | rw [if_pos hc44.symm] | rw [if_neg (fun e => hc44 e.symm)]); (first | rw [if_pos hc112] | rw [if_neg (fun e => Bool.noConfusion (hc112.symm.trans e))]); (first | rw [if_pos hc136] | rw [if_neg hc136])), fun j h1 h2 => by rw [u2_k h2, u2_k h1, hS3 84 (by decide) (by decide), hS2 84 (by decide) (by decide), uR_a (by decide)]⟩
        · refine z_iconst (v := nI 1) dX9_layGains_115 rfl ?_
          refine z_goto (tgt := 120) dX9_layGains_116 (by decide) ?_
          refine zn_iadd dX9_layGains_120 ?_
          refine z_aload_n dX9_layGains_121 rfl ?_
          refine z_aload_n dX9_layGains_122 rfl ?_
          refine y_getR dX9_layGains_123 lf_X9_38 rfl rfl ?_
          refine z_aload_n dX9_layGains_126 rfl ?_
          refine y_getR dX9_layGains_127 lf_X9_38 rfl rfl ?_
          refine z_iload_n dX9_layGains_130 rfl ?_
          refine y_ialde dX9_layGains_131 rfl (by decide) (by omega) ((u2_a (by decide)).trans ((hG3.1 b hb).1.trans (congrArg nI eB))) ?_
          refine y_callV2x (M' := M_X9_kindOf) dX9_layGains_132 lm_X9_144 cv_X9_kindOf rfl (Nat.le_of_ble_eq_true rfl) (Nat.le_of_ble_eq_true rfl) rfl (m_kindOf hp (PM_l hM3 Sl_u) p74 (PG_e hG3 (u2_rowa (by decide))) hV3 hcb _) ?_
          rw [eC]
          refine z_iconst (v := nI 3) dX9_layGains_135 rfl ?_
          refine zn_icmp_ne (tgt := 143) dX9_layGains_136 (by decide) (by omega) (by omega) (fun hc136 => ?_) (fun hc136 => ?_)
          · refine z_iconst (v := nI 0) dX9_layGains_143 rfl ?_
            refine zn_iadd dX9_layGains_144 ?_
            refine y_iast dX9_layGains_145 rfl (by decide) (by omega) ?_
            exact y_return dX9_layGains_146 rfl ⟨rfl, rfl, Sl_tr hSl (Sl_tr Sl_u Sl_u), by rw [u2_k (by omega), u2_s]; exact nI_e (by rw [G1, wth_ref]; (first | rw [if_pos hc44] | rw [if_neg hc44]); (first | rw [if_pos hc65] | rw [if_neg (fun e => Bool.noConfusion (hc65.symm.trans e))]); (first | rw [if_pos hc89] | rw [if_neg hc89])), by rw [u2_s]; exact nI_e (by rw [G2, wth_ref]; (first | rw [if_pos hc44.symm] | rw [if_neg (fun e => hc44 e.symm)]); (first | rw [if_pos hc112] | rw [if_neg (fun e => Bool.noConfusion (hc112.symm.trans e))]); (first | rw [if_pos hc136] | rw [if_neg hc136])), fun j h1 h2 => by rw [u2_k h2, u2_k h1, hS3 84 (by decide) (by decide), hS2 84 (by decide) (by decide), uR_a (by decide)]⟩
          · refine z_iconst (v := nI 1) dX9_layGains_139 rfl ?_
            refine z_goto (tgt := 144) dX9_layGains_140 (by decide) ?_
            refine zn_iadd dX9_layGains_144 ?_
            refine y_iast dX9_layGains_145 rfl (by decide) (by omega) ?_
            exact y_return dX9_layGains_146 rfl ⟨rfl, rfl, Sl_tr hSl (Sl_tr Sl_u Sl_u), by rw [u2_k (by omega), u2_s]; exact nI_e (by rw [G1, wth_ref]; (first | rw [if_pos hc44] | rw [if_neg hc44]); (first | rw [if_pos hc65] | rw [if_neg (fun e => Bool.noConfusion (hc65.symm.trans e))]); (first | rw [if_pos hc89] | rw [if_neg hc89])), by rw [u2_s]; exact nI_e (by rw [G2, wth_ref]; (first | rw [if_pos hc44.symm] | rw [if_neg (fun e => hc44 e.symm)]); (first | rw [if_pos hc112] | rw [if_neg (fun e => Bool.noConfusion (hc112.symm.trans e))]); (first | rw [if_pos hc136] | rw [if_neg hc136])), fun j h1 h2 => by rw [u2_k h2, u2_k h1, hS3 84 (by decide) (by decide), hS2 84 (by decide) (by decide), uR_a (by decide)]⟩
      · refine z_iconst (v := nI 1) dX9_layGains_92 rfl ?_
        refine z_goto (tgt := 97) dX9_layGains_93 (by decide) ?_
        refine zn_iadd dX9_layGains_97 ?_
        refine y_iast dX9_layGains_98 rfl (by decide) (by omega) ?_
        refine z_aload_n dX9_layGains_99 rfl ?_
        refine y_getR dX9_layGains_100 lf_X9_69 rfl rfl ?_
        refine z_iconst (v := nI 2) dX9_layGains_103 rfl ?_
        refine z_iload_n dX9_layGains_104 rfl ?_
        refine zn_imul dX9_layGains_105 ?_
        refine z_iconst (v := nI 1) dX9_layGains_106 rfl ?_
        refine zn_iadd dX9_layGains_107 ?_
        refine z_iload dX9_layGains_108 rfl ?_
        refine z_iload dX9_layGains_110 rfl ?_
        refine zb_if_eq (tgt := 119) dX9_layGains_112 (by decide) (fun hc112 => ?_) (fun hc112 => ?_)
        · refine z_iconst (v := nI 0) dX9_layGains_119 rfl ?_
          refine zn_iadd dX9_layGains_120 ?_
          refine z_aload_n dX9_layGains_121 rfl ?_
          refine z_aload_n dX9_layGains_122 rfl ?_
          refine y_getR dX9_layGains_123 lf_X9_38 rfl rfl ?_
          refine z_aload_n dX9_layGains_126 rfl ?_
          refine y_getR dX9_layGains_127 lf_X9_38 rfl rfl ?_
          refine z_iload_n dX9_layGains_130 rfl ?_
          refine y_ialde dX9_layGains_131 rfl (by decide) (by omega) ((u2_a (by decide)).trans ((hG3.1 b hb).1.trans (congrArg nI eB))) ?_
          refine y_callV2x (M' := M_X9_kindOf) dX9_layGains_132 lm_X9_144 cv_X9_kindOf rfl (Nat.le_of_ble_eq_true rfl) (Nat.le_of_ble_eq_true rfl) rfl (m_kindOf hp (PM_l hM3 Sl_u) p74 (PG_e hG3 (u2_rowa (by decide))) hV3 hcb _) ?_
          rw [eC]
          refine z_iconst (v := nI 3) dX9_layGains_135 rfl ?_
          refine zn_icmp_ne (tgt := 143) dX9_layGains_136 (by decide) (by omega) (by omega) (fun hc136 => ?_) (fun hc136 => ?_)
          · refine z_iconst (v := nI 0) dX9_layGains_143 rfl ?_
            refine zn_iadd dX9_layGains_144 ?_
            refine y_iast dX9_layGains_145 rfl (by decide) (by omega) ?_
            exact y_return dX9_layGains_146 rfl ⟨rfl, rfl, Sl_tr hSl (Sl_tr Sl_u Sl_u), by rw [u2_k (by omega), u2_s]; exact nI_e (by rw [G1, wth_ref]; (first | rw [if_pos hc44] | rw [if_neg hc44]); (first | rw [if_pos hc65] | rw [if_neg (fun e => Bool.noConfusion (hc65.symm.trans e))]); (first | rw [if_pos hc89] | rw [if_neg hc89])), by rw [u2_s]; exact nI_e (by rw [G2, wth_ref]; (first | rw [if_pos hc44.symm] | rw [if_neg (fun e => hc44 e.symm)]); (first | rw [if_pos hc112] | rw [if_neg (fun e => Bool.noConfusion (hc112.symm.trans e))]); (first | rw [if_pos hc136] | rw [if_neg hc136])), fun j h1 h2 => by rw [u2_k h2, u2_k h1, hS3 84 (by decide) (by decide), hS2 84 (by decide) (by decide), uR_a (by decide)]⟩
          · refine z_iconst (v := nI 1) dX9_layGains_139 rfl ?_
            refine z_goto (tgt := 144) dX9_layGains_140 (by decide) ?_
            refine zn_iadd dX9_layGains_144 ?_
            refine y_iast dX9_layGains_145 rfl (by decide) (by omega) ?_
            exact y_return dX9_layGains_146 rfl ⟨rfl, rfl, Sl_tr hSl (Sl_tr Sl_u Sl_u), by rw [u2_k (by omega), u2_s]; exact nI_e (by rw [G1, wth_ref]; (first | rw [if_pos hc44] | rw [if_neg hc44]); (first | rw [if_pos hc65] | rw [if_neg (fun e => Bool.noConfusion (hc65.symm.trans e))]); (first | rw [if_pos hc89] | rw [if_neg hc89])), by rw [u2_s]; exact nI_e (by rw [G2, wth_ref]; (first | rw [if_pos hc44.symm] | rw [if_neg (fun e => hc44 e.symm)]); (first | rw [if_pos hc112] | rw [if_neg (fun e => Bool.noConfusion (hc112.symm.trans e))]); (first | rw [if_pos hc136] | rw [if_neg hc136])), fun j h1 h2 => by rw [u2_k h2, u2_k h1, hS3 84 (by decide) (by decide), hS2 84 (by decide) (by decide), uR_a (by decide)]⟩
        · refine z_iconst (v := nI 1) dX9_layGains_115 rfl ?_
          refine z_goto (tgt := 120) dX9_layGains_116 (by decide) ?_
          refine zn_iadd dX9_layGains_120 ?_
          refine z_aload_n dX9_layGains_121 rfl ?_
          refine z_aload_n dX9_layGains_122 rfl ?_
          refine y_getR dX9_layGains_123 lf_X9_38 rfl rfl ?_
          refine z_aload_n dX9_layGains_126 rfl ?_
          refine y_getR dX9_layGains_127 lf_X9_38 rfl rfl ?_
          refine z_iload_n dX9_layGains_130 rfl ?_
          refine y_ialde dX9_layGains_131 rfl (by decide) (by omega) ((u2_a (by decide)).trans ((hG3.1 b hb).1.trans (congrArg nI eB))) ?_
          refine y_callV2x (M' := M_X9_kindOf) dX9_layGains_132 lm_X9_144 cv_X9_kindOf rfl (Nat.le_of_ble_eq_true rfl) (Nat.le_of_ble_eq_true rfl) rfl (m_kindOf hp (PM_l hM3 Sl_u) p74 (PG_e hG3 (u2_rowa (by decide))) hV3 hcb _) ?_
          rw [eC]
          refine z_iconst (v := nI 3) dX9_layGains_135 rfl ?_
          refine zn_icmp_ne (tgt := 143) dX9_layGains_136 (by decide) (by omega) (by omega) (fun hc136 => ?_) (fun hc136 => ?_)
          · refine z_iconst (v := nI 0) dX9_layGains_143 rfl ?_
            refine zn_iadd dX9_layGains_144 ?_
            refine y_iast dX9_layGains_145 rfl (by decide) (by omega) ?_
            exact y_return dX9_layGains_146 rfl ⟨rfl, rfl, Sl_tr hSl (Sl_tr Sl_u Sl_u), by rw [u2_k (by omega), u2_s]; exact nI_e (by rw [G1, wth_ref]; (first | rw [if_pos hc44] | rw [if_neg hc44]); (first | rw [if_pos hc65] | rw [if_neg (fun e => Bool.noConfusion (hc65.symm.trans e))]); (first | rw [if_pos hc89] | rw [if_neg hc89])), by rw [u2_s]; exact nI_e (by rw [G2, wth_ref]; (first | rw [if_pos hc44.symm] | rw [if_neg (fun e => hc44 e.symm)]); (first | rw [if_pos hc112] | rw [if_neg (fun e => Bool.noConfusion (hc112.symm.trans e))]); (first | rw [if_pos hc136] | rw [if_neg hc136])), fun j h1 h2 => by rw [u2_k h2, u2_k h1, hS3 84 (by decide) (by decide), hS2 84 (by decide) (by decide), uR_a (by decide)]⟩
          · refine z_iconst (v := nI 1) dX9_layGains_139 rfl ?_
            refine z_goto (tgt := 144) dX9_layGains_140 (by decide) ?_
            refine zn_iadd dX9_layGains_144 ?_
            refine y_iast dX9_layGains_145 rfl (by decide) (by omega) ?_
            exact y_return dX9_layGains_146 rfl ⟨rfl, rfl, Sl_tr hSl (Sl_tr Sl_u Sl_u), by rw [u2_k (by omega), u2_s]; exact nI_e (by rw [G1, wth_ref]; (first | rw [if_pos hc44] | rw [if_neg hc44]); (first | rw [if_pos hc65] | rw [if_neg (fun e => Bool.noConfusion (hc65.symm.trans e))]); (first | rw [if_pos hc89] | rw [if_neg hc89])), by rw [u2_s]; exact nI_e (by rw [G2, wth_ref]; (first | rw [if_pos hc44.symm] | rw [if_neg (fun e => hc44 e.symm)]); (first | rw [if_pos hc112] | rw [if_neg (fun e => Bool.noConfusion (hc112.symm.trans e))]); (first | rw [if_pos hc136] | rw [if_neg hc136])), fun j h1 h2 => by rw [u2_k h2, u2_k h1, hS3 84 (by decide) (by decide), hS2 84 (by decide) (by decide), uR_a (by decide)]⟩
    · refine z_iconst (v := nI 1) dX9_layGains_68 rfl ?_
      refine z_goto (tgt := 73) dX9_layGains_69 (by decide) ?_
      refine zn_iadd dX9_layGains_73 ?_
      refine z_aload_n dX9_layGains_74 rfl ?_
      refine z_aload_n dX9_layGains_75 rfl ?_
      refine y_getR dX9_layGains_76 lf_X9_38 rfl rfl ?_
      refine z_aload_n dX9_layGains_79 rfl ?_
      refine y_getR dX9_layGains_80 lf_X9_38 rfl rfl ?_
      refine z_iload_n dX9_layGains_83 rfl ?_
      refine y_ialde dX9_layGains_84 rfl (by decide) (by omega) ((hG3.1 a ha).1.trans (congrArg nI eA)) ?_
      refine y_callV2x (M' := M_X9_kindOf) dX9_layGains_85 lm_X9_144 cv_X9_kindOf rfl (Nat.le_of_ble_eq_true rfl) (Nat.le_of_ble_eq_true rfl) rfl (m_kindOf hp hM3 p74 hG3 hV3 hca _) ?_
      rw [eC]
      refine z_iconst (v := nI 3) dX9_layGains_88 rfl ?_
      refine zn_icmp_ne (tgt := 96) dX9_layGains_89 (by decide) (by omega) (by omega) (fun hc89 => ?_) (fun hc89 => ?_)
      · refine z_iconst (v := nI 0) dX9_layGains_96 rfl ?_
        refine zn_iadd dX9_layGains_97 ?_
        refine y_iast dX9_layGains_98 rfl (by decide) (by omega) ?_
        refine z_aload_n dX9_layGains_99 rfl ?_
        refine y_getR dX9_layGains_100 lf_X9_69 rfl rfl ?_
        refine z_iconst (v := nI 2) dX9_layGains_103 rfl ?_
        refine z_iload_n dX9_layGains_104 rfl ?_
        refine zn_imul dX9_layGains_105 ?_
        refine z_iconst (v := nI 1) dX9_layGains_106 rfl ?_
        refine zn_iadd dX9_layGains_107 ?_
        refine z_iload dX9_layGains_108 rfl ?_
        refine z_iload dX9_layGains_110 rfl ?_
        refine zb_if_eq (tgt := 119) dX9_layGains_112 (by decide) (fun hc112 => ?_) (fun hc112 => ?_)
        · refine z_iconst (v := nI 0) dX9_layGains_119 rfl ?_
          refine zn_iadd dX9_layGains_120 ?_
          refine z_aload_n dX9_layGains_121 rfl ?_
          refine z_aload_n dX9_layGains_122 rfl ?_
          refine y_getR dX9_layGains_123 lf_X9_38 rfl rfl ?_
          refine z_aload_n dX9_layGains_126 rfl ?_
          refine y_getR dX9_layGains_127 lf_X9_38 rfl rfl ?_
          refine z_iload_n dX9_layGains_130 rfl ?_
          refine y_ialde dX9_layGains_131 rfl (by decide) (by omega) ((u2_a (by decide)).trans ((hG3.1 b hb).1.trans (congrArg nI eB))) ?_
          refine y_callV2x (M' := M_X9_kindOf) dX9_layGains_132 lm_X9_144 cv_X9_kindOf rfl (Nat.le_of_ble_eq_true rfl) (Nat.le_of_ble_eq_true rfl) rfl (m_kindOf hp (PM_l hM3 Sl_u) p74 (PG_e hG3 (u2_rowa (by decide))) hV3 hcb _) ?_
          rw [eC]
          refine z_iconst (v := nI 3) dX9_layGains_135 rfl ?_
          refine zn_icmp_ne (tgt := 143) dX9_layGains_136 (by decide) (by omega) (by omega) (fun hc136 => ?_) (fun hc136 => ?_)
          · refine z_iconst (v := nI 0) dX9_layGains_143 rfl ?_
            refine zn_iadd dX9_layGains_144 ?_
            refine y_iast dX9_layGains_145 rfl (by decide) (by omega) ?_
            exact y_return dX9_layGains_146 rfl ⟨rfl, rfl, Sl_tr hSl (Sl_tr Sl_u Sl_u), by rw [u2_k (by omega), u2_s]; exact nI_e (by rw [G1, wth_ref]; (first | rw [if_pos hc44] | rw [if_neg hc44]); (first | rw [if_pos hc65] | rw [if_neg (fun e => Bool.noConfusion (hc65.symm.trans e))]); (first | rw [if_pos hc89] | rw [if_neg hc89])), by rw [u2_s]; exact nI_e (by rw [G2, wth_ref]; (first | rw [if_pos hc44.symm] | rw [if_neg (fun e => hc44 e.symm)]); (first | rw [if_pos hc112] | rw [if_neg (fun e => Bool.noConfusion (hc112.symm.trans e))]); (first | rw [if_pos hc136] | rw [if_neg hc136])), fun j h1 h2 => by rw [u2_k h2, u2_k h1, hS3 84 (by decide) (by decide), hS2 84 (by decide) (by decide), uR_a (by decide)]⟩
          · refine z_iconst (v := nI 1) dX9_layGains_139 rfl ?_
            refine z_goto (tgt := 144) dX9_layGains_140 (by decide) ?_
            refine zn_iadd dX9_layGains_144 ?_
            refine y_iast dX9_layGains_145 rfl (by decide) (by omega) ?_
            exact y_return dX9_layGains_146 rfl ⟨rfl, rfl, Sl_tr hSl (Sl_tr Sl_u Sl_u), by rw [u2_k (by omega), u2_s]; exact nI_e (by rw [G1, wth_ref]; (first | rw [if_pos hc44] | rw [if_neg hc44]); (first | rw [if_pos hc65] | rw [if_neg (fun e => Bool.noConfusion (hc65.symm.trans e))]); (first | rw [if_pos hc89] | rw [if_neg hc89])), by rw [u2_s]; exact nI_e (by rw [G2, wth_ref]; (first | rw [if_pos hc44.symm] | rw [if_neg (fun e => hc44 e.symm)]); (first | rw [if_pos hc112] | rw [if_neg (fun e => Bool.noConfusion (hc112.symm.trans e))]); (first | rw [if_pos hc136] | rw [if_neg hc136])), fun j h1 h2 => by rw [u2_k h2, u2_k h1, hS3 84 (by decide) (by decide), hS2 84 (by decide) (by decide), uR_a (by decide)]⟩
        · refine z_iconst (v := nI 1) dX9_layGains_115 rfl ?_
          refine z_goto (tgt := 120) dX9_layGains_116 (by decide) ?_
          refine zn_iadd dX9_layGains_120 ?_
          refine z_aload_n dX9_layGains_121 rfl ?_
          refine z_aload_n dX9_layGains_122 rfl ?_
          refine y_getR dX9_layGains_123 lf_X9_38 rfl rfl ?_
          refine z_aload_n dX9_layGains_126 rfl ?_
          refine y_getR dX9_layGains_127 lf_X9_38 rfl rfl ?_
          refine z_iload_n dX9_layGains_130 rfl ?_
          refine y_ialde dX9_layGains_131 rfl (by decide) (by omega) ((u2_a (by decide)).trans ((hG3.1 b hb).1.trans (congrArg nI eB))) ?_
          refine y_callV2x (M' := M_X9_kindOf) dX9_layGains_132 lm_X9_144 cv_X9_kindOf rfl (Nat.le_of_ble_eq_true rfl) (Nat.le_of_ble_eq_true rfl) rfl (m_kindOf hp (PM_l hM3 Sl_u) p74 (PG_e hG3 (u2_rowa (by decide))) hV3 hcb _) ?_
          rw [eC]
          refine z_iconst (v := nI 3) dX9_layGains_135 rfl ?_
          refine zn_icmp_ne (tgt := 143) dX9_layGains_136 (by decide) (by omega) (by omega) (fun hc136 => ?_) (fun hc136 => ?_)
          · refine z_iconst (v := nI 0) dX9_layGains_143 rfl ?_
            refine zn_iadd dX9_layGains_144 ?_
            refine y_iast dX9_layGains_145 rfl (by decide) (by omega) ?_
            exact y_return dX9_layGains_146 rfl ⟨rfl, rfl, Sl_tr hSl (Sl_tr Sl_u Sl_u), by rw [u2_k (by omega), u2_s]; exact nI_e (by rw [G1, wth_ref]; (first | rw [if_pos hc44] | rw [if_neg hc44]); (first | rw [if_pos hc65] | rw [if_neg (fun e => Bool.noConfusion (hc65.symm.trans e))]); (first | rw [if_pos hc89] | rw [if_neg hc89])), by rw [u2_s]; exact nI_e (by rw [G2, wth_ref]; (first | rw [if_pos hc44.symm] | rw [if_neg (fun e => hc44 e.symm)]); (first | rw [if_pos hc112] | rw [if_neg (fun e => Bool.noConfusion (hc112.symm.trans e))]); (first | rw [if_pos hc136] | rw [if_neg hc136])), fun j h1 h2 => by rw [u2_k h2, u2_k h1, hS3 84 (by decide) (by decide), hS2 84 (by decide) (by decide), uR_a (by decide)]⟩
          · refine z_iconst (v := nI 1) dX9_layGains_139 rfl ?_
            refine z_goto (tgt := 144) dX9_layGains_140 (by decide) ?_
            refine zn_iadd dX9_layGains_144 ?_
            refine y_iast dX9_layGains_145 rfl (by decide) (by omega) ?_
            exact y_return dX9_layGains_146 rfl ⟨rfl, rfl, Sl_tr hSl (Sl_tr Sl_u Sl_u), by rw [u2_k (by omega), u2_s]; exact nI_e (by rw [G1, wth_ref]; (first | rw [if_pos hc44] | rw [if_neg hc44]); (first | rw [if_pos hc65] | rw [if_neg (fun e => Bool.noConfusion (hc65.symm.trans e))]); (first | rw [if_pos hc89] | rw [if_neg hc89])), by rw [u2_s]; exact nI_e (by rw [G2, wth_ref]; (first | rw [if_pos hc44.symm] | rw [if_neg (fun e => hc44 e.symm)]); (first | rw [if_pos hc112] | rw [if_neg (fun e => Bool.noConfusion (hc112.symm.trans e))]); (first | rw [if_pos hc136] | rw [if_neg hc136])), fun j h1 h2 => by rw [u2_k h2, u2_k h1, hS3 84 (by decide) (by decide), hS2 84 (by decide) (by decide), uR_a (by decide)]⟩
      · refine z_iconst (v := nI 1) dX9_layGains_92 rfl ?_
        refine z_goto (tgt := 97) dX9_layGains_93 (by decide) ?_
        refine zn_iadd dX9_layGains_97 ?_
        refine y_iast dX9_layGains_98 rfl (by decide) (by omega) ?_
        refine z_aload_n dX9_layGains_99 rfl ?_
        refine y_getR dX9_layGains_100 lf_X9_69 rfl rfl ?_
        refine z_iconst (v := nI 2) dX9_layGains_103 rfl ?_
        refine z_iload_n dX9_layGains_104 rfl ?_
        refine zn_imul dX9_layGains_105 ?_
        refine z_iconst (v := nI 1) dX9_layGains_106 rfl ?_
        refine zn_iadd dX9_layGains_107 ?_
        refine z_iload dX9_layGains_108 rfl ?_
        refine z_iload dX9_layGains_110 rfl ?_
        refine zb_if_eq (tgt := 119) dX9_layGains_112 (by decide) (fun hc112 => ?_) (fun hc112 => ?_)
        · refine z_iconst (v := nI 0) dX9_layGains_119 rfl ?_
          refine zn_iadd dX9_layGains_120 ?_
          refine z_aload_n dX9_layGains_121 rfl ?_
          refine z_aload_n dX9_layGains_122 rfl ?_
          refine y_getR dX9_layGains_123 lf_X9_38 rfl rfl ?_
          refine z_aload_n dX9_layGains_126 rfl ?_
          refine y_getR dX9_layGains_127 lf_X9_38 rfl rfl ?_
          refine z_iload_n dX9_layGains_130 rfl ?_
          refine y_ialde dX9_layGains_131 rfl (by decide) (by omega) ((u2_a (by decide)).trans ((hG3.1 b hb).1.trans (congrArg nI eB))) ?_
          refine y_callV2x (M' := M_X9_kindOf) dX9_layGains_132 lm_X9_144 cv_X9_kindOf rfl (Nat.le_of_ble_eq_true rfl) (Nat.le_of_ble_eq_true rfl) rfl (m_kindOf hp (PM_l hM3 Sl_u) p74 (PG_e hG3 (u2_rowa (by decide))) hV3 hcb _) ?_
          rw [eC]
          refine z_iconst (v := nI 3) dX9_layGains_135 rfl ?_
          refine zn_icmp_ne (tgt := 143) dX9_layGains_136 (by decide) (by omega) (by omega) (fun hc136 => ?_) (fun hc136 => ?_)
          · refine z_iconst (v := nI 0) dX9_layGains_143 rfl ?_
            refine zn_iadd dX9_layGains_144 ?_
            refine y_iast dX9_layGains_145 rfl (by decide) (by omega) ?_
            exact y_return dX9_layGains_146 rfl ⟨rfl, rfl, Sl_tr hSl (Sl_tr Sl_u Sl_u), by rw [u2_k (by omega), u2_s]; exact nI_e (by rw [G1, wth_ref]; (first | rw [if_pos hc44] | rw [if_neg hc44]); (first | rw [if_pos hc65] | rw [if_neg (fun e => Bool.noConfusion (hc65.symm.trans e))]); (first | rw [if_pos hc89] | rw [if_neg hc89])), by rw [u2_s]; exact nI_e (by rw [G2, wth_ref]; (first | rw [if_pos hc44.symm] | rw [if_neg (fun e => hc44 e.symm)]); (first | rw [if_pos hc112] | rw [if_neg (fun e => Bool.noConfusion (hc112.symm.trans e))]); (first | rw [if_pos hc136] | rw [if_neg hc136])), fun j h1 h2 => by rw [u2_k h2, u2_k h1, hS3 84 (by decide) (by decide), hS2 84 (by decide) (by decide), uR_a (by decide)]⟩
          · refine z_iconst (v := nI 1) dX9_layGains_139 rfl ?_
            refine z_goto (tgt := 144) dX9_layGains_140 (by decide) ?_
            refine zn_iadd dX9_layGains_144 ?_
            refine y_iast dX9_layGains_145 rfl (by decide) (by omega) ?_
            exact y_return dX9_layGains_146 rfl ⟨rfl, rfl, Sl_tr hSl (Sl_tr Sl_u Sl_u), by rw [u2_k (by omega), u2_s]; exact nI_e (by rw [G1, wth_ref]; (first | rw [if_pos hc44] | rw [if_neg hc44]); (first | rw [if_pos hc65] | rw [if_neg (fun e => Bool.noConfusion (hc65.symm.trans e))]); (first | rw [if_pos hc89] | rw [if_neg hc89])), by rw [u2_s]; exact nI_e (by rw [G2, wth_ref]; (first | rw [if_pos hc44.symm] | rw [if_neg (fun e => hc44 e.symm)]); (first | rw [if_pos hc112] | rw [if_neg (fun e => Bool.noConfusion (hc112.symm.trans e))]); (first | rw [if_pos hc136] | rw [if_neg hc136])), fun j h1 h2 => by rw [u2_k h2, u2_k h1, hS3 84 (by decide) (by decide), hS2 84 (by decide) (by decide), uR_a (by decide)]⟩
        · refine z_iconst (v := nI 1) dX9_layGains_115 rfl ?_
          refine z_goto (tgt := 120) dX9_layGains_116 (by decide) ?_
          refine zn_iadd dX9_layGains_120 ?_
          refine z_aload_n dX9_layGains_121 rfl ?_
          refine z_aload_n dX9_layGains_122 rfl ?_
          refine y_getR dX9_layGains_123 lf_X9_38 rfl rfl ?_
          refine z_aload_n dX9_layGains_126 rfl ?_
          refine y_getR dX9_layGains_127 lf_X9_38 rfl rfl ?_
          refine z_iload_n dX9_layGains_130 rfl ?_
          refine y_ialde dX9_layGains_131 rfl (by decide) (by omega) ((u2_a (by decide)).trans ((hG3.1 b hb).1.trans (congrArg nI eB))) ?_
          refine y_callV2x (M' := M_X9_kindOf) dX9_layGains_132 lm_X9_144 cv_X9_kindOf rfl (Nat.le_of_ble_eq_true rfl) (Nat.le_of_ble_eq_true rfl) rfl (m_kindOf hp (PM_l hM3 Sl_u) p74 (PG_e hG3 (u2_rowa (by decide))) hV3 hcb _) ?_
          rw [eC]
          refine z_iconst (v := nI 3) dX9_layGains_135 rfl ?_
          refine zn_icmp_ne (tgt := 143) dX9_layGains_136 (by decide) (by omega) (by omega) (fun hc136 => ?_) (fun hc136 => ?_)
          · refine z_iconst (v := nI 0) dX9_layGains_143 rfl ?_
            refine zn_iadd dX9_layGains_144 ?_
            refine y_iast dX9_layGains_145 rfl (by decide) (by omega) ?_
            exact y_return dX9_layGains_146 rfl ⟨rfl, rfl, Sl_tr hSl (Sl_tr Sl_u Sl_u), by rw [u2_k (by omega), u2_s]; exact nI_e (by rw [G1, wth_ref]; (first | rw [if_pos hc44] | rw [if_neg hc44]); (first | rw [if_pos hc65] | rw [if_neg (fun e => Bool.noConfusion (hc65.symm.trans e))]); (first | rw [if_pos hc89] | rw [if_neg hc89])), by rw [u2_s]; exact nI_e (by rw [G2, wth_ref]; (first | rw [if_pos hc44.symm] | rw [if_neg (fun e => hc44 e.symm)]); (first | rw [if_pos hc112] | rw [if_neg (fun e => Bool.noConfusion (hc112.symm.trans e))]); (first | rw [if_pos hc136] | rw [if_neg hc136])), fun j h1 h2 => by rw [u2_k h2, u2_k h1, hS3 84 (by decide) (by decide), hS2 84 (by decide) (by decide), uR_a (by decide)]⟩
          · refine z_iconst (v := nI 1) dX9_layGains_139 rfl ?_
            refine z_goto (tgt := 144) dX9_layGains_140 (by decide) ?_
            refine zn_iadd dX9_layGains_144 ?_
            refine y_iast dX9_layGains_145 rfl (by decide) (by omega) ?_
            exact y_return dX9_layGains_146 rfl ⟨rfl, rfl, Sl_tr hSl (Sl_tr Sl_u Sl_u), by rw [u2_k (by omega), u2_s]; exact nI_e (by rw [G1, wth_ref]; (first | rw [if_pos hc44] | rw [if_neg hc44]); (first | rw [if_pos hc65] | rw [if_neg (fun e => Bool.noConfusion (hc65.symm.trans e))]); (first | rw [if_pos hc89] | rw [if_neg hc89])), by rw [u2_s]; exact nI_e (by rw [G2, wth_ref]; (first | rw [if_pos hc44.symm] | rw [if_neg (fun e => hc44 e.symm)]); (first | rw [if_pos hc112] | rw [if_neg (fun e => Bool.noConfusion (hc112.symm.trans e))]); (first | rw [if_pos hc136] | rw [if_neg hc136])), fun j h1 h2 => by rw [u2_k h2, u2_k h1, hS3 84 (by decide) (by decide), hS2 84 (by decide) (by decide), uR_a (by decide)]⟩
  · refine z_iconst (v := nI 3) dX9_layGains_47 rfl ?_
    refine z_goto (tgt := 52) dX9_layGains_48 (by decide) ?_
    refine z_istore6 dX9_layGains_52 rfl ?_
    refine z_aload_n dX9_layGains_54 rfl ?_
    refine y_getR dX9_layGains_55 lf_X9_69 rfl rfl ?_
    refine z_iconst (v := nI 2) dX9_layGains_58 rfl ?_
    refine z_iload_n dX9_layGains_59 rfl ?_
    refine zn_imul dX9_layGains_60 ?_
    refine z_iload dX9_layGains_61 rfl ?_
    refine z_iload dX9_layGains_63 rfl ?_
    refine zb_if_eq (tgt := 72) dX9_layGains_65 (by decide) (fun hc65 => ?_) (fun hc65 => ?_)
    · refine z_iconst (v := nI 0) dX9_layGains_72 rfl ?_
      refine zn_iadd dX9_layGains_73 ?_
      refine z_aload_n dX9_layGains_74 rfl ?_
      refine z_aload_n dX9_layGains_75 rfl ?_
      refine y_getR dX9_layGains_76 lf_X9_38 rfl rfl ?_
      refine z_aload_n dX9_layGains_79 rfl ?_
      refine y_getR dX9_layGains_80 lf_X9_38 rfl rfl ?_
      refine z_iload_n dX9_layGains_83 rfl ?_
      refine y_ialde dX9_layGains_84 rfl (by decide) (by omega) ((hG3.1 a ha).1.trans (congrArg nI eA)) ?_
      refine y_callV2x (M' := M_X9_kindOf) dX9_layGains_85 lm_X9_144 cv_X9_kindOf rfl (Nat.le_of_ble_eq_true rfl) (Nat.le_of_ble_eq_true rfl) rfl (m_kindOf hp hM3 p74 hG3 hV3 hca _) ?_
      rw [eC]
      refine z_iconst (v := nI 3) dX9_layGains_88 rfl ?_
      refine zn_icmp_ne (tgt := 96) dX9_layGains_89 (by decide) (by omega) (by omega) (fun hc89 => ?_) (fun hc89 => ?_)
      · refine z_iconst (v := nI 0) dX9_layGains_96 rfl ?_
        refine zn_iadd dX9_layGains_97 ?_
        refine y_iast dX9_layGains_98 rfl (by decide) (by omega) ?_
        refine z_aload_n dX9_layGains_99 rfl ?_
        refine y_getR dX9_layGains_100 lf_X9_69 rfl rfl ?_
        refine z_iconst (v := nI 2) dX9_layGains_103 rfl ?_
        refine z_iload_n dX9_layGains_104 rfl ?_
        refine zn_imul dX9_layGains_105 ?_
        refine z_iconst (v := nI 1) dX9_layGains_106 rfl ?_
        refine zn_iadd dX9_layGains_107 ?_
        refine z_iload dX9_layGains_108 rfl ?_
        refine z_iload dX9_layGains_110 rfl ?_
        refine zb_if_eq (tgt := 119) dX9_layGains_112 (by decide) (fun hc112 => ?_) (fun hc112 => ?_)
        · refine z_iconst (v := nI 0) dX9_layGains_119 rfl ?_
          refine zn_iadd dX9_layGains_120 ?_
          refine z_aload_n dX9_layGains_121 rfl ?_
          refine z_aload_n dX9_layGains_122 rfl ?_
          refine y_getR dX9_layGains_123 lf_X9_38 rfl rfl ?_
          refine z_aload_n dX9_layGains_126 rfl ?_
          refine y_getR dX9_layGains_127 lf_X9_38 rfl rfl ?_
          refine z_iload_n dX9_layGains_130 rfl ?_
          refine y_ialde dX9_layGains_131 rfl (by decide) (by omega) ((u2_a (by decide)).trans ((hG3.1 b hb).1.trans (congrArg nI eB))) ?_
          refine y_callV2x (M' := M_X9_kindOf) dX9_layGains_132 lm_X9_144 cv_X9_kindOf rfl (Nat.le_of_ble_eq_true rfl) (Nat.le_of_ble_eq_true rfl) rfl (m_kindOf hp (PM_l hM3 Sl_u) p74 (PG_e hG3 (u2_rowa (by decide))) hV3 hcb _) ?_
          rw [eC]
          refine z_iconst (v := nI 3) dX9_layGains_135 rfl ?_
          refine zn_icmp_ne (tgt := 143) dX9_layGains_136 (by decide) (by omega) (by omega) (fun hc136 => ?_) (fun hc136 => ?_)
          · refine z_iconst (v := nI 0) dX9_layGains_143 rfl ?_
            refine zn_iadd dX9_layGains_144 ?_
            refine y_iast dX9_layGains_145 rfl (by decide) (by omega) ?_
            exact y_return dX9_layGains_146 rfl ⟨rfl, rfl, Sl_tr hSl (Sl_tr Sl_u Sl_u), by rw [u2_k (by omega), u2_s]; exact nI_e (by rw [G1, wth_ref]; (first | rw [if_pos hc44] | rw [if_neg hc44]); (first | rw [if_pos hc65] | rw [if_neg (fun e => Bool.noConfusion (hc65.symm.trans e))]); (first | rw [if_pos hc89] | rw [if_neg hc89])), by rw [u2_s]; exact nI_e (by rw [G2, wth_ref]; (first | rw [if_pos hc44.symm] | rw [if_neg (fun e => hc44 e.symm)]); (first | rw [if_pos hc112] | rw [if_neg (fun e => Bool.noConfusion (hc112.symm.trans e))]); (first | rw [if_pos hc136] | rw [if_neg hc136])), fun j h1 h2 => by rw [u2_k h2, u2_k h1, hS3 84 (by decide) (by decide), hS2 84 (by decide) (by decide), uR_a (by decide)]⟩
          · refine z_iconst (v := nI 1) dX9_layGains_139 rfl ?_
            refine z_goto (tgt := 144) dX9_layGains_140 (by decide) ?_
            refine zn_iadd dX9_layGains_144 ?_
            refine y_iast dX9_layGains_145 rfl (by decide) (by omega) ?_
            exact y_return dX9_layGains_146 rfl ⟨rfl, rfl, Sl_tr hSl (Sl_tr Sl_u Sl_u), by rw [u2_k (by omega), u2_s]; exact nI_e (by rw [G1, wth_ref]; (first | rw [if_pos hc44] | rw [if_neg hc44]); (first | rw [if_pos hc65] | rw [if_neg (fun e => Bool.noConfusion (hc65.symm.trans e))]); (first | rw [if_pos hc89] | rw [if_neg hc89])), by rw [u2_s]; exact nI_e (by rw [G2, wth_ref]; (first | rw [if_pos hc44.symm] | rw [if_neg (fun e => hc44 e.symm)]); (first | rw [if_pos hc112] | rw [if_neg (fun e => Bool.noConfusion (hc112.symm.trans e))]); (first | rw [if_pos hc136] | rw [if_neg hc136])), fun j h1 h2 => by rw [u2_k h2, u2_k h1, hS3 84 (by decide) (by decide), hS2 84 (by decide) (by decide), uR_a (by decide)]⟩
        · refine z_iconst (v := nI 1) dX9_layGains_115 rfl ?_
          refine z_goto (tgt := 120) dX9_layGains_116 (by decide) ?_
          refine zn_iadd dX9_layGains_120 ?_
          refine z_aload_n dX9_layGains_121 rfl ?_
          refine z_aload_n dX9_layGains_122 rfl ?_
          refine y_getR dX9_layGains_123 lf_X9_38 rfl rfl ?_
          refine z_aload_n dX9_layGains_126 rfl ?_
          refine y_getR dX9_layGains_127 lf_X9_38 rfl rfl ?_
          refine z_iload_n dX9_layGains_130 rfl ?_
          refine y_ialde dX9_layGains_131 rfl (by decide) (by omega) ((u2_a (by decide)).trans ((hG3.1 b hb).1.trans (congrArg nI eB))) ?_
          refine y_callV2x (M' := M_X9_kindOf) dX9_layGains_132 lm_X9_144 cv_X9_kindOf rfl (Nat.le_of_ble_eq_true rfl) (Nat.le_of_ble_eq_true rfl) rfl (m_kindOf hp (PM_l hM3 Sl_u) p74 (PG_e hG3 (u2_rowa (by decide))) hV3 hcb _) ?_
          rw [eC]
          refine z_iconst (v := nI 3) dX9_layGains_135 rfl ?_
          refine zn_icmp_ne (tgt := 143) dX9_layGains_136 (by decide) (by omega) (by omega) (fun hc136 => ?_) (fun hc136 => ?_)
          · refine z_iconst (v := nI 0) dX9_layGains_143 rfl ?_
            refine zn_iadd dX9_layGains_144 ?_
            refine y_iast dX9_layGains_145 rfl (by decide) (by omega) ?_
            exact y_return dX9_layGains_146 rfl ⟨rfl, rfl, Sl_tr hSl (Sl_tr Sl_u Sl_u), by rw [u2_k (by omega), u2_s]; exact nI_e (by rw [G1, wth_ref]; (first | rw [if_pos hc44] | rw [if_neg hc44]); (first | rw [if_pos hc65] | rw [if_neg (fun e => Bool.noConfusion (hc65.symm.trans e))]); (first | rw [if_pos hc89] | rw [if_neg hc89])), by rw [u2_s]; exact nI_e (by rw [G2, wth_ref]; (first | rw [if_pos hc44.symm] | rw [if_neg (fun e => hc44 e.symm)]); (first | rw [if_pos hc112] | rw [if_neg (fun e => Bool.noConfusion (hc112.symm.trans e))]); (first | rw [if_pos hc136] | rw [if_neg hc136])), fun j h1 h2 => by rw [u2_k h2, u2_k h1, hS3 84 (by decide) (by decide), hS2 84 (by decide) (by decide), uR_a (by decide)]⟩
          · refine z_iconst (v := nI 1) dX9_layGains_139 rfl ?_
            refine z_goto (tgt := 144) dX9_layGains_140 (by decide) ?_
            refine zn_iadd dX9_layGains_144 ?_
            refine y_iast dX9_layGains_145 rfl (by decide) (by omega) ?_
            exact y_return dX9_layGains_146 rfl ⟨rfl, rfl, Sl_tr hSl (Sl_tr Sl_u Sl_u), by rw [u2_k (by omega), u2_s]; exact nI_e (by rw [G1, wth_ref]; (first | rw [if_pos hc44] | rw [if_neg hc44]); (first | rw [if_pos hc65] | rw [if_neg (fun e => Bool.noConfusion (hc65.symm.trans e))]); (first | rw [if_pos hc89] | rw [if_neg hc89])), by rw [u2_s]; exact nI_e (by rw [G2, wth_ref]; (first | rw [if_pos hc44.symm] | rw [if_neg (fun e => hc44 e.symm)]); (first | rw [if_pos hc112] | rw [if_neg (fun e => Bool.noConfusion (hc112.symm.trans e))]); (first | rw [if_pos hc136] | rw [if_neg hc136])), fun j h1 h2 => by rw [u2_k h2, u2_k h1, hS3 84 (by decide) (by decide), hS2 84 (by decide) (by decide), uR_a (by decide)]⟩
      · refine z_iconst (v := nI 1) dX9_layGains_92 rfl ?_
        refine z_goto (tgt := 97) dX9_layGains_93 (by decide) ?_
        refine zn_iadd dX9_layGains_97 ?_
        refine y_iast dX9_layGains_98 rfl (by decide) (by omega) ?_
        refine z_aload_n dX9_layGains_99 rfl ?_
        refine y_getR dX9_layGains_100 lf_X9_69 rfl rfl ?_
        refine z_iconst (v := nI 2) dX9_layGains_103 rfl ?_
        refine z_iload_n dX9_layGains_104 rfl ?_
        refine zn_imul dX9_layGains_105 ?_
        refine z_iconst (v := nI 1) dX9_layGains_106 rfl ?_
        refine zn_iadd dX9_layGains_107 ?_
        refine z_iload dX9_layGains_108 rfl ?_
        refine z_iload dX9_layGains_110 rfl ?_
        refine zb_if_eq (tgt := 119) dX9_layGains_112 (by decide) (fun hc112 => ?_) (fun hc112 => ?_)
        · refine z_iconst (v := nI 0) dX9_layGains_119 rfl ?_
          refine zn_iadd dX9_layGains_120 ?_
          refine z_aload_n dX9_layGains_121 rfl ?_
          refine z_aload_n dX9_layGains_122 rfl ?_
          refine y_getR dX9_layGains_123 lf_X9_38 rfl rfl ?_
          refine z_aload_n dX9_layGains_126 rfl ?_
          refine y_getR dX9_layGains_127 lf_X9_38 rfl rfl ?_
          refine z_iload_n dX9_layGains_130 rfl ?_
          refine y_ialde dX9_layGains_131 rfl (by decide) (by omega) ((u2_a (by decide)).trans ((hG3.1 b hb).1.trans (congrArg nI eB))) ?_
          refine y_callV2x (M' := M_X9_kindOf) dX9_layGains_132 lm_X9_144 cv_X9_kindOf rfl (Nat.le_of_ble_eq_true rfl) (Nat.le_of_ble_eq_true rfl) rfl (m_kindOf hp (PM_l hM3 Sl_u) p74 (PG_e hG3 (u2_rowa (by decide))) hV3 hcb _) ?_
          rw [eC]
          refine z_iconst (v := nI 3) dX9_layGains_135 rfl ?_
          refine zn_icmp_ne (tgt := 143) dX9_layGains_136 (by decide) (by omega) (by omega) (fun hc136 => ?_) (fun hc136 => ?_)
          · refine z_iconst (v := nI 0) dX9_layGains_143 rfl ?_
            refine zn_iadd dX9_layGains_144 ?_
            refine y_iast dX9_layGains_145 rfl (by decide) (by omega) ?_
            exact y_return dX9_layGains_146 rfl ⟨rfl, rfl, Sl_tr hSl (Sl_tr Sl_u Sl_u), by rw [u2_k (by omega), u2_s]; exact nI_e (by rw [G1, wth_ref]; (first | rw [if_pos hc44] | rw [if_neg hc44]); (first | rw [if_pos hc65] | rw [if_neg (fun e => Bool.noConfusion (hc65.symm.trans e))]); (first | rw [if_pos hc89] | rw [if_neg hc89])), by rw [u2_s]; exact nI_e (by rw [G2, wth_ref]; (first | rw [if_pos hc44.symm] | rw [if_neg (fun e => hc44 e.symm)]); (first | rw [if_pos hc112] | rw [if_neg (fun e => Bool.noConfusion (hc112.symm.trans e))]); (first | rw [if_pos hc136] | rw [if_neg hc136])), fun j h1 h2 => by rw [u2_k h2, u2_k h1, hS3 84 (by decide) (by decide), hS2 84 (by decide) (by decide), uR_a (by decide)]⟩
          · refine z_iconst (v := nI 1) dX9_layGains_139 rfl ?_
            refine z_goto (tgt := 144) dX9_layGains_140 (by decide) ?_
            refine zn_iadd dX9_layGains_144 ?_
            refine y_iast dX9_layGains_145 rfl (by decide) (by omega) ?_
            exact y_return dX9_layGains_146 rfl ⟨rfl, rfl, Sl_tr hSl (Sl_tr Sl_u Sl_u), by rw [u2_k (by omega), u2_s]; exact nI_e (by rw [G1, wth_ref]; (first | rw [if_pos hc44] | rw [if_neg hc44]); (first | rw [if_pos hc65] | rw [if_neg (fun e => Bool.noConfusion (hc65.symm.trans e))]); (first | rw [if_pos hc89] | rw [if_neg hc89])), by rw [u2_s]; exact nI_e (by rw [G2, wth_ref]; (first | rw [if_pos hc44.symm] | rw [if_neg (fun e => hc44 e.symm)]); (first | rw [if_pos hc112] | rw [if_neg (fun e => Bool.noConfusion (hc112.symm.trans e))]); (first | rw [if_pos hc136] | rw [if_neg hc136])), fun j h1 h2 => by rw [u2_k h2, u2_k h1, hS3 84 (by decide) (by decide), hS2 84 (by decide) (by decide), uR_a (by decide)]⟩
        · refine z_iconst (v := nI 1) dX9_layGains_115 rfl ?_
          refine z_goto (tgt := 120) dX9_layGains_116 (by decide) ?_
          refine zn_iadd dX9_layGains_120 ?_
          refine z_aload_n dX9_layGains_121 rfl ?_
          refine z_aload_n dX9_layGains_122 rfl ?_
          refine y_getR dX9_layGains_123 lf_X9_38 rfl rfl ?_
          refine z_aload_n dX9_layGains_126 rfl ?_
          refine y_getR dX9_layGains_127 lf_X9_38 rfl rfl ?_
          refine z_iload_n dX9_layGains_130 rfl ?_
          refine y_ialde dX9_layGains_131 rfl (by decide) (by omega) ((u2_a (by decide)).trans ((hG3.1 b hb).1.trans (congrArg nI eB))) ?_
          refine y_callV2x (M' := M_X9_kindOf) dX9_layGains_132 lm_X9_144 cv_X9_kindOf rfl (Nat.le_of_ble_eq_true rfl) (Nat.le_of_ble_eq_true rfl) rfl (m_kindOf hp (PM_l hM3 Sl_u) p74 (PG_e hG3 (u2_rowa (by decide))) hV3 hcb _) ?_
          rw [eC]
          refine z_iconst (v := nI 3) dX9_layGains_135 rfl ?_
          refine zn_icmp_ne (tgt := 143) dX9_layGains_136 (by decide) (by omega) (by omega) (fun hc136 => ?_) (fun hc136 => ?_)
          · refine z_iconst (v := nI 0) dX9_layGains_143 rfl ?_
            refine zn_iadd dX9_layGains_144 ?_
            refine y_iast dX9_layGains_145 rfl (by decide) (by omega) ?_
            exact y_return dX9_layGains_146 rfl ⟨rfl, rfl, Sl_tr hSl (Sl_tr Sl_u Sl_u), by rw [u2_k (by omega), u2_s]; exact nI_e (by rw [G1, wth_ref]; (first | rw [if_pos hc44] | rw [if_neg hc44]); (first | rw [if_pos hc65] | rw [if_neg (fun e => Bool.noConfusion (hc65.symm.trans e))]); (first | rw [if_pos hc89] | rw [if_neg hc89])), by rw [u2_s]; exact nI_e (by rw [G2, wth_ref]; (first | rw [if_pos hc44.symm] | rw [if_neg (fun e => hc44 e.symm)]); (first | rw [if_pos hc112] | rw [if_neg (fun e => Bool.noConfusion (hc112.symm.trans e))]); (first | rw [if_pos hc136] | rw [if_neg hc136])), fun j h1 h2 => by rw [u2_k h2, u2_k h1, hS3 84 (by decide) (by decide), hS2 84 (by decide) (by decide), uR_a (by decide)]⟩
          · refine z_iconst (v := nI 1) dX9_layGains_139 rfl ?_
            refine z_goto (tgt := 144) dX9_layGains_140 (by decide) ?_
            refine zn_iadd dX9_layGains_144 ?_
            refine y_iast dX9_layGains_145 rfl (by decide) (by omega) ?_
            exact y_return dX9_layGains_146 rfl ⟨rfl, rfl, Sl_tr hSl (Sl_tr Sl_u Sl_u), by rw [u2_k (by omega), u2_s]; exact nI_e (by rw [G1, wth_ref]; (first | rw [if_pos hc44] | rw [if_neg hc44]); (first | rw [if_pos hc65] | rw [if_neg (fun e => Bool.noConfusion (hc65.symm.trans e))]); (first | rw [if_pos hc89] | rw [if_neg hc89])), by rw [u2_s]; exact nI_e (by rw [G2, wth_ref]; (first | rw [if_pos hc44.symm] | rw [if_neg (fun e => hc44 e.symm)]); (first | rw [if_pos hc112] | rw [if_neg (fun e => Bool.noConfusion (hc112.symm.trans e))]); (first | rw [if_pos hc136] | rw [if_neg hc136])), fun j h1 h2 => by rw [u2_k h2, u2_k h1, hS3 84 (by decide) (by decide), hS2 84 (by decide) (by decide), uR_a (by decide)]⟩
    · refine z_iconst (v := nI 1) dX9_layGains_68 rfl ?_
      refine z_goto (tgt := 73) dX9_layGains_69 (by decide) ?_
      refine zn_iadd dX9_layGains_73 ?_
      refine z_aload_n dX9_layGains_74 rfl ?_
      refine z_aload_n dX9_layGains_75 rfl ?_
      refine y_getR dX9_layGains_76 lf_X9_38 rfl rfl ?_
      refine z_aload_n dX9_layGains_79 rfl ?_
      refine y_getR dX9_layGains_80 lf_X9_38 rfl rfl ?_
      refine z_iload_n dX9_layGains_83 rfl ?_
      refine y_ialde dX9_layGains_84 rfl (by decide) (by omega) ((hG3.1 a ha).1.trans (congrArg nI eA)) ?_
      refine y_callV2x (M' := M_X9_kindOf) dX9_layGains_85 lm_X9_144 cv_X9_kindOf rfl (Nat.le_of_ble_eq_true rfl) (Nat.le_of_ble_eq_true rfl) rfl (m_kindOf hp hM3 p74 hG3 hV3 hca _) ?_
      rw [eC]
      refine z_iconst (v := nI 3) dX9_layGains_88 rfl ?_
      refine zn_icmp_ne (tgt := 96) dX9_layGains_89 (by decide) (by omega) (by omega) (fun hc89 => ?_) (fun hc89 => ?_)
      · refine z_iconst (v := nI 0) dX9_layGains_96 rfl ?_
        refine zn_iadd dX9_layGains_97 ?_
        refine y_iast dX9_layGains_98 rfl (by decide) (by omega) ?_
        refine z_aload_n dX9_layGains_99 rfl ?_
        refine y_getR dX9_layGains_100 lf_X9_69 rfl rfl ?_
        refine z_iconst (v := nI 2) dX9_layGains_103 rfl ?_
        refine z_iload_n dX9_layGains_104 rfl ?_
        refine zn_imul dX9_layGains_105 ?_
        refine z_iconst (v := nI 1) dX9_layGains_106 rfl ?_
        refine zn_iadd dX9_layGains_107 ?_
        refine z_iload dX9_layGains_108 rfl ?_
        refine z_iload dX9_layGains_110 rfl ?_
        refine zb_if_eq (tgt := 119) dX9_layGains_112 (by decide) (fun hc112 => ?_) (fun hc112 => ?_)
        · refine z_iconst (v := nI 0) dX9_layGains_119 rfl ?_
          refine zn_iadd dX9_layGains_120 ?_
          refine z_aload_n dX9_layGains_121 rfl ?_
          refine z_aload_n dX9_layGains_122 rfl ?_
          refine y_getR dX9_layGains_123 lf_X9_38 rfl rfl ?_
          refine z_aload_n dX9_layGains_126 rfl ?_
          refine y_getR dX9_layGains_127 lf_X9_38 rfl rfl ?_
          refine z_iload_n dX9_layGains_130 rfl ?_
          refine y_ialde dX9_layGains_131 rfl (by decide) (by omega) ((u2_a (by decide)).trans ((hG3.1 b hb).1.trans (congrArg nI eB))) ?_
          refine y_callV2x (M' := M_X9_kindOf) dX9_layGains_132 lm_X9_144 cv_X9_kindOf rfl (Nat.le_of_ble_eq_true rfl) (Nat.le_of_ble_eq_true rfl) rfl (m_kindOf hp (PM_l hM3 Sl_u) p74 (PG_e hG3 (u2_rowa (by decide))) hV3 hcb _) ?_
          rw [eC]
          refine z_iconst (v := nI 3) dX9_layGains_135 rfl ?_
          refine zn_icmp_ne (tgt := 143) dX9_layGains_136 (by decide) (by omega) (by omega) (fun hc136 => ?_) (fun hc136 => ?_)
          · refine z_iconst (v := nI 0) dX9_layGains_143 rfl ?_
            refine zn_iadd dX9_layGains_144 ?_
            refine y_iast dX9_layGains_145 rfl (by decide) (by omega) ?_
            exact y_return dX9_layGains_146 rfl ⟨rfl, rfl, Sl_tr hSl (Sl_tr Sl_u Sl_u), by rw [u2_k (by omega), u2_s]; exact nI_e (by rw [G1, wth_ref]; (first | rw [if_pos hc44] | rw [if_neg hc44]); (first | rw [if_pos hc65] | rw [if_neg (fun e => Bool.noConfusion (hc65.symm.trans e))]); (first | rw [if_pos hc89] | rw [if_neg hc89])), by rw [u2_s]; exact nI_e (by rw [G2, wth_ref]; (first | rw [if_pos hc44.symm] | rw [if_neg (fun e => hc44 e.symm)]); (first | rw [if_pos hc112] | rw [if_neg (fun e => Bool.noConfusion (hc112.symm.trans e))]); (first | rw [if_pos hc136] | rw [if_neg hc136])), fun j h1 h2 => by rw [u2_k h2, u2_k h1, hS3 84 (by decide) (by decide), hS2 84 (by decide) (by decide), uR_a (by decide)]⟩
          · refine z_iconst (v := nI 1) dX9_layGains_139 rfl ?_
            refine z_goto (tgt := 144) dX9_layGains_140 (by decide) ?_
            refine zn_iadd dX9_layGains_144 ?_
            refine y_iast dX9_layGains_145 rfl (by decide) (by omega) ?_
            exact y_return dX9_layGains_146 rfl ⟨rfl, rfl, Sl_tr hSl (Sl_tr Sl_u Sl_u), by rw [u2_k (by omega), u2_s]; exact nI_e (by rw [G1, wth_ref]; (first | rw [if_pos hc44] | rw [if_neg hc44]); (first | rw [if_pos hc65] | rw [if_neg (fun e => Bool.noConfusion (hc65.symm.trans e))]); (first | rw [if_pos hc89] | rw [if_neg hc89])), by rw [u2_s]; exact nI_e (by rw [G2, wth_ref]; (first | rw [if_pos hc44.symm] | rw [if_neg (fun e => hc44 e.symm)]); (first | rw [if_pos hc112] | rw [if_neg (fun e => Bool.noConfusion (hc112.symm.trans e))]); (first | rw [if_pos hc136] | rw [if_neg hc136])), fun j h1 h2 => by rw [u2_k h2, u2_k h1, hS3 84 (by decide) (by decide), hS2 84 (by decide) (by decide), uR_a (by decide)]⟩
        · refine z_iconst (v := nI 1) dX9_layGains_115 rfl ?_
          refine z_goto (tgt := 120) dX9_layGains_116 (by decide) ?_
          refine zn_iadd dX9_layGains_120 ?_
          refine z_aload_n dX9_layGains_121 rfl ?_
          refine z_aload_n dX9_layGains_122 rfl ?_
          refine y_getR dX9_layGains_123 lf_X9_38 rfl rfl ?_
          refine z_aload_n dX9_layGains_126 rfl ?_
          refine y_getR dX9_layGains_127 lf_X9_38 rfl rfl ?_
          refine z_iload_n dX9_layGains_130 rfl ?_
          refine y_ialde dX9_layGains_131 rfl (by decide) (by omega) ((u2_a (by decide)).trans ((hG3.1 b hb).1.trans (congrArg nI eB))) ?_
          refine y_callV2x (M' := M_X9_kindOf) dX9_layGains_132 lm_X9_144 cv_X9_kindOf rfl (Nat.le_of_ble_eq_true rfl) (Nat.le_of_ble_eq_true rfl) rfl (m_kindOf hp (PM_l hM3 Sl_u) p74 (PG_e hG3 (u2_rowa (by decide))) hV3 hcb _) ?_
          rw [eC]
          refine z_iconst (v := nI 3) dX9_layGains_135 rfl ?_
          refine zn_icmp_ne (tgt := 143) dX9_layGains_136 (by decide) (by omega) (by omega) (fun hc136 => ?_) (fun hc136 => ?_)
          · refine z_iconst (v := nI 0) dX9_layGains_143 rfl ?_
            refine zn_iadd dX9_layGains_144 ?_
            refine y_iast dX9_layGains_145 rfl (by decide) (by omega) ?_
            exact y_return dX9_layGains_146 rfl ⟨rfl, rfl, Sl_tr hSl (Sl_tr Sl_u Sl_u), by rw [u2_k (by omega), u2_s]; exact nI_e (by rw [G1, wth_ref]; (first | rw [if_pos hc44] | rw [if_neg hc44]); (first | rw [if_pos hc65] | rw [if_neg (fun e => Bool.noConfusion (hc65.symm.trans e))]); (first | rw [if_pos hc89] | rw [if_neg hc89])), by rw [u2_s]; exact nI_e (by rw [G2, wth_ref]; (first | rw [if_pos hc44.symm] | rw [if_neg (fun e => hc44 e.symm)]); (first | rw [if_pos hc112] | rw [if_neg (fun e => Bool.noConfusion (hc112.symm.trans e))]); (first | rw [if_pos hc136] | rw [if_neg hc136])), fun j h1 h2 => by rw [u2_k h2, u2_k h1, hS3 84 (by decide) (by decide), hS2 84 (by decide) (by decide), uR_a (by decide)]⟩
          · refine z_iconst (v := nI 1) dX9_layGains_139 rfl ?_
            refine z_goto (tgt := 144) dX9_layGains_140 (by decide) ?_
            refine zn_iadd dX9_layGains_144 ?_
            refine y_iast dX9_layGains_145 rfl (by decide) (by omega) ?_
            exact y_return dX9_layGains_146 rfl ⟨rfl, rfl, Sl_tr hSl (Sl_tr Sl_u Sl_u), by rw [u2_k (by omega), u2_s]; exact nI_e (by rw [G1, wth_ref]; (first | rw [if_pos hc44] | rw [if_neg hc44]); (first | rw [if_pos hc65] | rw [if_neg (fun e => Bool.noConfusion (hc65.symm.trans e))]); (first | rw [if_pos hc89] | rw [if_neg hc89])), by rw [u2_s]; exact nI_e (by rw [G2, wth_ref]; (first | rw [if_pos hc44.symm] | rw [if_neg (fun e => hc44 e.symm)]); (first | rw [if_pos hc112] | rw [if_neg (fun e => Bool.noConfusion (hc112.symm.trans e))]); (first | rw [if_pos hc136] | rw [if_neg hc136])), fun j h1 h2 => by rw [u2_k h2, u2_k h1, hS3 84 (by decide) (by decide), hS2 84 (by decide) (by decide), uR_a (by decide)]⟩
      · refine z_iconst (v := nI 1) dX9_layGains_92 rfl ?_
        refine z_goto (tgt := 97) dX9_layGains_93 (by decide) ?_
        refine zn_iadd dX9_layGains_97 ?_
        refine y_iast dX9_layGains_98 rfl (by decide) (by omega) ?_
        refine z_aload_n dX9_layGains_99 rfl ?_
        refine y_getR dX9_layGains_100 lf_X9_69 rfl rfl ?_
        refine z_iconst (v := nI 2) dX9_layGains_103 rfl ?_
        refine z_iload_n dX9_layGains_104 rfl ?_
        refine zn_imul dX9_layGains_105 ?_
        refine z_iconst (v := nI 1) dX9_layGains_106 rfl ?_
        refine zn_iadd dX9_layGains_107 ?_
        refine z_iload dX9_layGains_108 rfl ?_
        refine z_iload dX9_layGains_110 rfl ?_
        refine zb_if_eq (tgt := 119) dX9_layGains_112 (by decide) (fun hc112 => ?_) (fun hc112 => ?_)
        · refine z_iconst (v := nI 0) dX9_layGains_119 rfl ?_
          refine zn_iadd dX9_layGains_120 ?_
          refine z_aload_n dX9_layGains_121 rfl ?_
          refine z_aload_n dX9_layGains_122 rfl ?_
          refine y_getR dX9_layGains_123 lf_X9_38 rfl rfl ?_
          refine z_aload_n dX9_layGains_126 rfl ?_
          refine y_getR dX9_layGains_127 lf_X9_38 rfl rfl ?_
          refine z_iload_n dX9_layGains_130 rfl ?_
          refine y_ialde dX9_layGains_131 rfl (by decide) (by omega) ((u2_a (by decide)).trans ((hG3.1 b hb).1.trans (congrArg nI eB))) ?_
          refine y_callV2x (M' := M_X9_kindOf) dX9_layGains_132 lm_X9_144 cv_X9_kindOf rfl (Nat.le_of_ble_eq_true rfl) (Nat.le_of_ble_eq_true rfl) rfl (m_kindOf hp (PM_l hM3 Sl_u) p74 (PG_e hG3 (u2_rowa (by decide))) hV3 hcb _) ?_
          rw [eC]
          refine z_iconst (v := nI 3) dX9_layGains_135 rfl ?_
          refine zn_icmp_ne (tgt := 143) dX9_layGains_136 (by decide) (by omega) (by omega) (fun hc136 => ?_) (fun hc136 => ?_)
          · refine z_iconst (v := nI 0) dX9_layGains_143 rfl ?_
            refine zn_iadd dX9_layGains_144 ?_
            refine y_iast dX9_layGains_145 rfl (by decide) (by omega) ?_
            exact y_return dX9_layGains_146 rfl ⟨rfl, rfl, Sl_tr hSl (Sl_tr Sl_u Sl_u), by rw [u2_k (by omega), u2_s]; exact nI_e (by rw [G1, wth_ref]; (first | rw [if_pos hc44] | rw [if_neg hc44]); (first | rw [if_pos hc65] | rw [if_neg (fun e => Bool.noConfusion (hc65.symm.trans e))]); (first | rw [if_pos hc89] | rw [if_neg hc89])), by rw [u2_s]; exact nI_e (by rw [G2, wth_ref]; (first | rw [if_pos hc44.symm] | rw [if_neg (fun e => hc44 e.symm)]); (first | rw [if_pos hc112] | rw [if_neg (fun e => Bool.noConfusion (hc112.symm.trans e))]); (first | rw [if_pos hc136] | rw [if_neg hc136])), fun j h1 h2 => by rw [u2_k h2, u2_k h1, hS3 84 (by decide) (by decide), hS2 84 (by decide) (by decide), uR_a (by decide)]⟩
          · refine z_iconst (v := nI 1) dX9_layGains_139 rfl ?_
            refine z_goto (tgt := 144) dX9_layGains_140 (by decide) ?_
            refine zn_iadd dX9_layGains_144 ?_
            refine y_iast dX9_layGains_145 rfl (by decide) (by omega) ?_
            exact y_return dX9_layGains_146 rfl ⟨rfl, rfl, Sl_tr hSl (Sl_tr Sl_u Sl_u), by rw [u2_k (by omega), u2_s]; exact nI_e (by rw [G1, wth_ref]; (first | rw [if_pos hc44] | rw [if_neg hc44]); (first | rw [if_pos hc65] | rw [if_neg (fun e => Bool.noConfusion (hc65.symm.trans e))]); (first | rw [if_pos hc89] | rw [if_neg hc89])), by rw [u2_s]; exact nI_e (by rw [G2, wth_ref]; (first | rw [if_pos hc44.symm] | rw [if_neg (fun e => hc44 e.symm)]); (first | rw [if_pos hc112] | rw [if_neg (fun e => Bool.noConfusion (hc112.symm.trans e))]); (first | rw [if_pos hc136] | rw [if_neg hc136])), fun j h1 h2 => by rw [u2_k h2, u2_k h1, hS3 84 (by decide) (by decide), hS2 84 (by decide) (by decide), uR_a (by decide)]⟩
        · refine z_iconst (v := nI 1) dX9_layGains_115 rfl ?_
          refine z_goto (tgt := 120) dX9_layGains_116 (by decide) ?_
          refine zn_iadd dX9_layGains_120 ?_
          refine z_aload_n dX9_layGains_121 rfl ?_
          refine z_aload_n dX9_layGains_122 rfl ?_
          refine y_getR dX9_layGains_123 lf_X9_38 rfl rfl ?_
          refine z_aload_n dX9_layGains_126 rfl ?_
          refine y_getR dX9_layGains_127 lf_X9_38 rfl rfl ?_
          refine z_iload_n dX9_layGains_130 rfl ?_
          refine y_ialde dX9_layGains_131 rfl (by decide) (by omega) ((u2_a (by decide)).trans ((hG3.1 b hb).1.trans (congrArg nI eB))) ?_
          refine y_callV2x (M' := M_X9_kindOf) dX9_layGains_132 lm_X9_144 cv_X9_kindOf rfl (Nat.le_of_ble_eq_true rfl) (Nat.le_of_ble_eq_true rfl) rfl (m_kindOf hp (PM_l hM3 Sl_u) p74 (PG_e hG3 (u2_rowa (by decide))) hV3 hcb _) ?_
          rw [eC]
          refine z_iconst (v := nI 3) dX9_layGains_135 rfl ?_
          refine zn_icmp_ne (tgt := 143) dX9_layGains_136 (by decide) (by omega) (by omega) (fun hc136 => ?_) (fun hc136 => ?_)
          · refine z_iconst (v := nI 0) dX9_layGains_143 rfl ?_
            refine zn_iadd dX9_layGains_144 ?_
            refine y_iast dX9_layGains_145 rfl (by decide) (by omega) ?_
            exact y_return dX9_layGains_146 rfl ⟨rfl, rfl, Sl_tr hSl (Sl_tr Sl_u Sl_u), by rw [u2_k (by omega), u2_s]; exact nI_e (by rw [G1, wth_ref]; (first | rw [if_pos hc44] | rw [if_neg hc44]); (first | rw [if_pos hc65] | rw [if_neg (fun e => Bool.noConfusion (hc65.symm.trans e))]); (first | rw [if_pos hc89] | rw [if_neg hc89])), by rw [u2_s]; exact nI_e (by rw [G2, wth_ref]; (first | rw [if_pos hc44.symm] | rw [if_neg (fun e => hc44 e.symm)]); (first | rw [if_pos hc112] | rw [if_neg (fun e => Bool.noConfusion (hc112.symm.trans e))]); (first | rw [if_pos hc136] | rw [if_neg hc136])), fun j h1 h2 => by rw [u2_k h2, u2_k h1, hS3 84 (by decide) (by decide), hS2 84 (by decide) (by decide), uR_a (by decide)]⟩
          · refine z_iconst (v := nI 1) dX9_layGains_139 rfl ?_
            refine z_goto (tgt := 144) dX9_layGains_140 (by decide) ?_
            refine zn_iadd dX9_layGains_144 ?_
            refine y_iast dX9_layGains_145 rfl (by decide) (by omega) ?_
            exact y_return dX9_layGains_146 rfl ⟨rfl, rfl, Sl_tr hSl (Sl_tr Sl_u Sl_u), by rw [u2_k (by omega), u2_s]; exact nI_e (by rw [G1, wth_ref]; (first | rw [if_pos hc44] | rw [if_neg hc44]); (first | rw [if_pos hc65] | rw [if_neg (fun e => Bool.noConfusion (hc65.symm.trans e))]); (first | rw [if_pos hc89] | rw [if_neg hc89])), by rw [u2_s]; exact nI_e (by rw [G2, wth_ref]; (first | rw [if_pos hc44.symm] | rw [if_neg (fun e => hc44 e.symm)]); (first | rw [if_pos hc112] | rw [if_neg (fun e => Bool.noConfusion (hc112.symm.trans e))]); (first | rw [if_pos hc136] | rw [if_neg hc136])), fun j h1 h2 => by rw [u2_k h2, u2_k h1, hS3 84 (by decide) (by decide), hS2 84 (by decide) (by decide), uR_a (by decide)]⟩
def GM (p : PT) (s : SC) (a b i : Nat) (mu : zmu) : Prop := ∀ k, k < i → mu 84 (2 * k) = nI (G1 p s a b k) ∧ mu 84 (2 * k + 1) = nI (G2 p s a b k)
def rr1 (A : AS) (a b k : Nat) : Nat → Bool := rst1 (goa (aP A) (aN A).2 a ((aN A).1 a)) (goc (aP A) (aN A).2 a ((aN A).1 a)) (goa (aP A) (aN A).2 b ((aN A).1 b)) (goc (aP A) (aN A).2 b ((aN A).1 b)) (k / 4) (k % 4)
theorem rsA_K (A : AS) (a b k : Nat) : rsA A a b k = sfK (rr1 A a b k) 4 := by simp [rsA, rsk, rst, sfK, rr1, Bool.and_assoc]
theorem rr1_eq (A : AS) {a b k i : Nat} (hk : k < 16) (hi : i < 4) : rr1 A a b k i = (decide (G1 (aP A) (aN A) a b (4 * i + k % 4) ≤ G1 (aP A) (aN A) a b k) && decide (G2 (aP A) (aN A) a b (k - k % 4 + i) ≤ G2 (aP A) (aN A) a b k)) := by
  unfold rr1 rst1 G1 G2
  rw [show (4 * i + k % 4) / 4 = i by omega, show (4 * i + k % 4) % 4 = k % 4 by omega, show (k - k % 4 + i) % 4 = i by omega, show (k - k % 4 + i) / 4 = k / 4 by omega]
theorem G_le (p : PT) (s : SC) (a b k : Nat) : G1 p s a b k ≤ 5 ∧ G2 p s a b k ≤ 5 := ⟨wth_le (goa_le _ _ _ _ _), wth_le (goa_le _ _ _ _ _)⟩
theorem bcnt_0 {f : Nat → Bool} : ∀ {n : Nat}, bcnt f n = 0 → ∀ j, j < n → f j = false := fun {n} h j hj => by
  cases e : f j with
  | false => rfl
  | true => exact absurd h (by have := bcnt_at (f := f) hj e; omega)
theorem rfst_s0 {f : Nat → Bool} {n : Nat} (h : f n = false) : rfst f (n + 1) = rfst f n := by
  unfold rfst
  rw [List.range_succ, List.find?_append]
  simp [h]
theorem rfst_s1 {f : Nat → Bool} {n : Nat} (h : f n = true) (h0 : bcnt f n = 0) : rfst f (n + 1) = some (10 * (n / 4) + n % 4) := rfst_some (by omega) h (bcnt_0 h0)
theorem rfst_s2 {f : Nat → Bool} {n : Nat} (h0 : ¬ bcnt f n = 0) : rfst f (n + 1) = rfst f n := by
  unfold rfst
  rw [List.range_succ, List.find?_append]
  cases e : (List.range n).find? f with
  | some k => rfl
  | none =>
    exfalso
    rw [List.find?_range_eq_none] at e
    apply h0
    have : ∀ m, m ≤ n → bcnt f m = 0 := by
      intro m
      induction m with
      | zero => intro _; rfl
      | succ m ih => intro hm; rw [bcnt_s, ih (by omega)]; have := e m (by omega); simp at this; simp [this]
    exact this n (Nat.le_refl _)
theorem o9_rfst (f : Nat → Bool) {n : Nat} (hn : n ≤ 16) : True := trivial
set_option maxRecDepth 4000 in
theorem r_restsIn {X : zX} {mu : zmu} {nu : znu} {A : AS} (hA : AV A) (hC : MR A mu nu) {a b j : Nat} {k : Int32} (hj : j < 16) (hg : GM (aP A) (aN A) a b 16 mu) {Q : zq} (d : Nat) (kk : zJ X M_X9_rests (d + 10) 0 0 177 [.ref 66, .int (nI a), .int (nI b), .int k, .int (nI j), .int (b2i (rsA A a b j)), .int (nI 4)] [] 86 (zEE (mu) (nu)) (zlift (Q))) : ∀ n i , i + n = 4 → zJ X M_X9_rests (d + 10) 0 0 92 [.ref 66, .int (nI a), .int (nI b), .int k, .int (nI j), .int (b2i (sfK (rr1 A a b j) i)), .int (nI i)] [] 86 (zEE (mu) (nu)) (zlift (Q)) := by
  intro n
  induction n with
  | zero =>
    intro i  hi
    obtain rfl : i = 4 := by omega
    rw [← rsA_K]
    refine z_iload dX9_rests_92 rfl ?_
    refine z_iconst (v := nI 4) dX9_rests_94 rfl ?_
    refine zn_icmp_ge (tgt := 177) dX9_rests_95 (by decide) (by omega) (by omega) (fun hc95 => ?_) (fun hc95 => by omega)
    exact kk
  | succ n ih =>
    intro i  hi
    have e1 := rr1_eq A (a := a) (b := b) hj (show i < 4 by omega)
    have g1 := G_le (aP A) (aN A) a b j
    have g2 := G_le (aP A) (aN A) a b (4 * i + j % 4)
    have g3 := G_le (aP A) (aN A) a b (j - j % 4 + i)
    refine z_iload dX9_rests_92 rfl ?_
    refine z_iconst (v := nI 4) dX9_rests_94 rfl ?_
    refine zn_icmp_ge (tgt := 177) dX9_rests_95 (by decide) (by omega) (by omega) (fun hc95 => by omega) (fun hc95 => ?_)
    refine z_iload dX9_rests_98 rfl ?_
    refine zb_if_eq (tgt := 168) dX9_rests_100 (by decide) (fun hc100 => ?_) (fun hc100 => ?_)
    · refine z_iconst (v := nI 0) dX9_rests_168 rfl ?_
      refine z_istore5 dX9_rests_169 rfl ?_
      refine zn_iinc6 dX9_rests_171 rfl ?_
      refine z_goto (tgt := 92) dX9_rests_174 (by decide) ?_
      have e : sfK (rr1 A a b j) (i + 1) = false := by rw [sfK_s, hc100]; rfl
      have q := ih (i + 1) (by omega)
      rw [e] at q; exact q
    · refine z_aload_n dX9_rests_103 rfl ?_
      refine y_getR dX9_rests_104 lf_X9_69 rfl rfl ?_
      refine z_iconst (v := nI 2) dX9_rests_107 rfl ?_
      refine z_iconst (v := nI 4) dX9_rests_108 rfl ?_
      refine z_iload dX9_rests_109 rfl ?_
      refine zn_imul dX9_rests_111 ?_
      refine z_iload dX9_rests_112 rfl ?_
      refine z_iconst (v := nI 4) dX9_rests_114 rfl ?_
      refine zn_irem dX9_rests_115 (by omega) (by omega) (by omega) ?_
      refine zn_iadd dX9_rests_116 ?_
      refine zn_imul dX9_rests_117 ?_
      refine y_ialde dX9_rests_118 rfl (by decide) (by omega) (hg (4 * i + j % 4) (by omega)).1 ?_
      refine z_aload_n dX9_rests_119 rfl ?_
      refine y_getR dX9_rests_120 lf_X9_69 rfl rfl ?_
      refine z_iconst (v := nI 2) dX9_rests_123 rfl ?_
      refine z_iload dX9_rests_124 rfl ?_
      refine zn_imul dX9_rests_126 ?_
      refine y_ialde dX9_rests_127 rfl (by decide) (by omega) (hg j hj).1 ?_
      refine zn_icmp_gt (tgt := 168) dX9_rests_128 (by decide) (by omega) (by omega) (fun hc128 => ?_) (fun hc128 => ?_)
      · refine z_iconst (v := nI 0) dX9_rests_168 rfl ?_
        refine z_istore5 dX9_rests_169 rfl ?_
        refine zn_iinc6 dX9_rests_171 rfl ?_
        refine z_goto (tgt := 92) dX9_rests_174 (by decide) ?_
        have e : sfK (rr1 A a b j) (i + 1) = false := by rw [sfK_s, e1, decide_eq_false (Nat.not_le.mpr hc128)]; simp
        have q := ih (i + 1) (by omega)
        rw [e] at q; exact q
      · refine z_aload_n dX9_rests_131 rfl ?_
        refine y_getR dX9_rests_132 lf_X9_69 rfl rfl ?_
        refine z_iconst (v := nI 2) dX9_rests_135 rfl ?_
        refine z_iload dX9_rests_136 rfl ?_
        refine z_iload dX9_rests_138 rfl ?_
        refine z_iconst (v := nI 4) dX9_rests_140 rfl ?_
        refine zn_irem dX9_rests_141 (by omega) (by omega) (by omega) ?_
        refine zn_isub dX9_rests_142 (by omega) ?_
        refine z_iload dX9_rests_143 rfl ?_
        refine zn_iadd dX9_rests_145 ?_
        refine zn_imul dX9_rests_146 ?_
        refine z_iconst (v := nI 1) dX9_rests_147 rfl ?_
        refine zn_iadd dX9_rests_148 ?_
        refine y_ialde dX9_rests_149 rfl (by decide) (by omega) (hg (j - j % 4 + i) (by omega)).2 ?_
        refine z_aload_n dX9_rests_150 rfl ?_
        refine y_getR dX9_rests_151 lf_X9_69 rfl rfl ?_
        refine z_iconst (v := nI 2) dX9_rests_154 rfl ?_
        refine z_iload dX9_rests_155 rfl ?_
        refine zn_imul dX9_rests_157 ?_
        refine z_iconst (v := nI 1) dX9_rests_158 rfl ?_
        refine zn_iadd dX9_rests_159 ?_
        refine y_ialde dX9_rests_160 rfl (by decide) (by omega) (hg j hj).2 ?_
        refine zn_icmp_gt (tgt := 168) dX9_rests_161 (by decide) (by omega) (by omega) (fun hc161 => ?_) (fun hc161 => ?_)
        · refine z_iconst (v := nI 0) dX9_rests_168 rfl ?_
          refine z_istore5 dX9_rests_169 rfl ?_
          refine zn_iinc6 dX9_rests_171 rfl ?_
          refine z_goto (tgt := 92) dX9_rests_174 (by decide) ?_
          have e : sfK (rr1 A a b j) (i + 1) = false := by rw [sfK_s, e1, decide_eq_false (Nat.not_le.mpr hc161)]; simp
          have q := ih (i + 1) (by omega)
          rw [e] at q; exact q
        · refine z_iconst (v := nI 1) dX9_rests_164 rfl ?_
          refine z_goto (tgt := 169) dX9_rests_165 (by decide) ?_
          refine z_istore5 dX9_rests_169 rfl ?_
          refine zn_iinc6 dX9_rests_171 rfl ?_
          refine z_goto (tgt := 92) dX9_rests_174 (by decide) ?_
          have e : sfK (rr1 A a b j) (i + 1) = true := by rw [sfK_s, hc100, e1, decide_eq_true hc128, decide_eq_true hc161]; rfl
          have q := ih (i + 1) (by omega)
          rw [e] at q; exact q
set_option maxRecDepth 4000 in
theorem r_rests_l {X : zX} {mu : zmu} {nu : znu} {A : AS} (hA : AV A) (hC : MR A mu nu) {a b : Nat} {k : Int32} (hk : k = 0 ∨ k = nI 1) {f : Int32} (hf : f = if k = 0 then nI (bcnt (rsA A a b) 16) else o9 (rfst (rsA A a b) 16)) (d : Nat) : ∀ n i mu1, i + n = 16 → Sm mu mu1 → GM (aP A) (aN A) a b 16 mu1 → mu1 66 32 = nI (bcnt (rsA A a b) i) → mu1 66 33 = o9 (rfst (rsA A a b) i) → zJ X M_X9_rests (d + 10) 0 0 79 [.ref 66, .int (nI a), .int (nI b), .int k, .int (nI i), zu, zu] [] 86 (zEE (mu1) (nu)) (zlift (QM (f, A) mu nu)) := by
  intro n
  induction n with
  | zero =>
    intro i mu1 hi
    intro hS hg hm hff
    obtain rfl : i = 16 := by omega
    refine z_iload dX9_rests_79 rfl ?_
    refine z_bipush (v := nI 16) dX9_rests_81 rfl ?_
    refine zn_icmp_ge (tgt := 237) dX9_rests_83 (by decide) (by omega) (by omega) (fun hc83 => ?_) (fun hc83 => by omega)
    refine z_iload_n dX9_rests_237 rfl ?_
    refine z_if_ne (tgt := 248) dX9_rests_238 (by decide) (fun hc238 => ?_) (fun hc238 => ?_)
    · refine z_aload_n dX9_rests_248 rfl ?_
      refine y_getIe dX9_rests_249 lf_X9_275 rfl rfl hff ?_
      exact y_ireturn dX9_rests_252 rfl (QM_m hC hS (by rw [hf]; simp_all))
    · refine z_aload_n dX9_rests_241 rfl ?_
      refine y_getIe dX9_rests_242 lf_X9_272 rfl rfl hm ?_
      refine z_goto (tgt := 252) dX9_rests_245 (by decide) ?_
      exact y_ireturn dX9_rests_252 rfl (QM_m hC hS (by rw [hf]; simp_all))
  | succ n ih =>
    intro i mu1 hi
    intro hS hg hm hff
    have hbl := bcnt_le (rsA A a b) i
    have hC1 := MR_s hC hS
    refine z_iload dX9_rests_79 rfl ?_
    refine z_bipush (v := nI 16) dX9_rests_81 rfl ?_
    refine zn_icmp_ge (tgt := 237) dX9_rests_83 (by decide) (by omega) (by omega) (fun hc83 => by omega) (fun hc83 => ?_)
    refine z_iconst (v := nI 1) dX9_rests_86 rfl ?_
    refine z_istore5 dX9_rests_87 rfl ?_
    refine z_iconst (v := nI 0) dX9_rests_89 rfl ?_
    refine z_istore6 dX9_rests_90 rfl ?_
    refine r_restsIn hA hC1 (j := i) (by omega) hg d ?_ 4 0 (by omega)
    refine z_aload_n dX9_rests_177 rfl ?_
    refine z_iload dX9_rests_178 rfl ?_
    refine zb_if_eq (tgt := 205) dX9_rests_180 (by decide) (fun hc180 => ?_) (fun hc180 => ?_)
    · refine z_aload_n dX9_rests_205 rfl ?_
      refine y_getIe dX9_rests_206 lf_X9_275 rfl rfl hff ?_
      refine y_putI dX9_rests_209 lp_X9_275 rfl rfl ?_
      refine z_aload_n dX9_rests_212 rfl ?_
      refine z_dup dX9_rests_213 rfl ?_
      refine y_getIe dX9_rests_214 lf_X9_272 rfl rfl ((u2_k (by decide)).trans hm) ?_
      refine z_iload dX9_rests_217 rfl ?_
      refine zb_if_eq (tgt := 226) dX9_rests_219 (by decide) (fun hc219 => ?_) (fun hc219 => by exact Bool.noConfusion (hc180.symm.trans hc219))
      refine z_iconst (v := nI 0) dX9_rests_226 rfl ?_
      refine zn_iadd dX9_rests_227 ?_
      refine y_putI dX9_rests_228 lp_X9_272 rfl rfl ?_
      refine zn_iinc4 dX9_rests_231 rfl ?_
      refine z_goto (tgt := 79) dX9_rests_234 (by decide) ?_
      refine z_sub (ih (i + 1) _ (by omega) (Sm_tr hS (Sm_tr (Sm_u (by unfold live; omega)) (Sm_u (by unfold live; omega)))) (fun q hq => ?_) ?_ ?_) ⟨Or.inr rfl, Or.inr rfl, Or.inr rfl, Or.inr rfl, Or.inr rfl, Or.inl rfl, Or.inl rfl, trivial⟩
      · rw [u2_a (by decide), u2_a (by decide), u2_a (by decide), u2_a (by decide)]; exact hg q hq
      · rw [u2_s]; exact nI_e (by rw [bcnt_s]; rw [hc180]; simp)
      · rw [u2_k (by decide), u2_s]; rw [rfst_s0 hc180]
    · refine z_aload_n dX9_rests_183 rfl ?_
      refine y_getIe dX9_rests_184 lf_X9_272 rfl rfl hm ?_
      refine zn_if_ne (tgt := 205) dX9_rests_187 (by decide) (by omega) (fun hc187 => ?_) (fun hc187 => ?_)
      · refine z_aload_n dX9_rests_205 rfl ?_
        refine y_getIe dX9_rests_206 lf_X9_275 rfl rfl hff ?_
        refine y_putI dX9_rests_209 lp_X9_275 rfl rfl ?_
        refine z_aload_n dX9_rests_212 rfl ?_
        refine z_dup dX9_rests_213 rfl ?_
        refine y_getIe dX9_rests_214 lf_X9_272 rfl rfl ((u2_k (by decide)).trans hm) ?_
        refine z_iload dX9_rests_217 rfl ?_
        refine zb_if_eq (tgt := 226) dX9_rests_219 (by decide) (fun hc219 => by exact Bool.noConfusion (hc219.symm.trans hc180)) (fun hc219 => ?_)
        refine z_iconst (v := nI 1) dX9_rests_222 rfl ?_
        refine z_goto (tgt := 227) dX9_rests_223 (by decide) ?_
        refine zn_iadd dX9_rests_227 ?_
        refine y_putI dX9_rests_228 lp_X9_272 rfl rfl ?_
        refine zn_iinc4 dX9_rests_231 rfl ?_
        refine z_goto (tgt := 79) dX9_rests_234 (by decide) ?_
        refine z_sub (ih (i + 1) _ (by omega) (Sm_tr hS (Sm_tr (Sm_u (by unfold live; omega)) (Sm_u (by unfold live; omega)))) (fun q hq => ?_) ?_ ?_) ⟨Or.inr rfl, Or.inr rfl, Or.inr rfl, Or.inr rfl, Or.inr rfl, Or.inl rfl, Or.inl rfl, trivial⟩
        · rw [u2_a (by decide), u2_a (by decide), u2_a (by decide), u2_a (by decide)]; exact hg q hq
        · rw [u2_s]; exact nI_e (by rw [bcnt_s]; rw [hc180]; simp)
        · rw [u2_k (by decide), u2_s]; rw [rfst_s2 hc187]
      · refine z_bipush (v := nI 10) dX9_rests_190 rfl ?_
        refine z_iload dX9_rests_192 rfl ?_
        refine z_iconst (v := nI 4) dX9_rests_194 rfl ?_
        refine zn_idiv dX9_rests_195 (by omega) (by omega) (by omega) ?_
        refine zn_imul dX9_rests_196 ?_
        refine z_iload dX9_rests_197 rfl ?_
        refine z_iconst (v := nI 4) dX9_rests_199 rfl ?_
        refine zn_irem dX9_rests_200 (by omega) (by omega) (by omega) ?_
        refine zn_iadd dX9_rests_201 ?_
        refine z_goto (tgt := 209) dX9_rests_202 (by decide) ?_
        refine y_putI dX9_rests_209 lp_X9_275 rfl rfl ?_
        refine z_aload_n dX9_rests_212 rfl ?_
        refine z_dup dX9_rests_213 rfl ?_
        refine y_getIe dX9_rests_214 lf_X9_272 rfl rfl ((u2_k (by decide)).trans hm) ?_
        refine z_iload dX9_rests_217 rfl ?_
        refine zb_if_eq (tgt := 226) dX9_rests_219 (by decide) (fun hc219 => by exact Bool.noConfusion (hc219.symm.trans hc180)) (fun hc219 => ?_)
        refine z_iconst (v := nI 1) dX9_rests_222 rfl ?_
        refine z_goto (tgt := 227) dX9_rests_223 (by decide) ?_
        refine zn_iadd dX9_rests_227 ?_
        refine y_putI dX9_rests_228 lp_X9_272 rfl rfl ?_
        refine zn_iinc4 dX9_rests_231 rfl ?_
        refine z_goto (tgt := 79) dX9_rests_234 (by decide) ?_
        refine z_sub (ih (i + 1) _ (by omega) (Sm_tr hS (Sm_tr (Sm_u (by unfold live; omega)) (Sm_u (by unfold live; omega)))) (fun q hq => ?_) ?_ ?_) ⟨Or.inr rfl, Or.inr rfl, Or.inr rfl, Or.inr rfl, Or.inr rfl, Or.inl rfl, Or.inl rfl, trivial⟩
        · rw [u2_a (by decide), u2_a (by decide), u2_a (by decide), u2_a (by decide)]; exact hg q hq
        · rw [u2_s]; exact nI_e (by rw [bcnt_s]; rw [hc180]; simp)
        · rw [u2_k (by decide), u2_s]; rw [rfst_s1 hc180 hc187]; rfl
set_option maxRecDepth 4000 in
theorem r_restsG {X : zX} {mu : zmu} {nu : znu} {A : AS} (hA : AV A) (hC : MR A mu nu) {a b : Nat} {k : Int32} (ha : a < pb (aP A)) (hb : b < pb (aP A)) (hab : a ≠ b) (hk : k = 0 ∨ k = nI 1) {f : Int32} (hf : f = if k = 0 then nI (bcnt (rsA A a b) 16) else o9 (rfst (rsA A a b) 16)) (d : Nat) : ∀ n i mu1, i + n = 16 → Sl mu mu1 → GM (aP A) (aN A) a b i mu1 → zJ X M_X9_rests (d + 10) 0 0 44 [.ref 66, .int (nI a), .int (nI b), .int k, .int (nI i), zu, zu] [] 86 (zEE (mu1) (nu)) (zlift (QM (f, A) mu nu)) := by
  intro n
  induction n with
  | zero =>
    intro i mu1 hi
    have hp := hA.1
    have hV := hA.2.1
    have h20 : pw (aP A) * ph (aP A) ≤ 20 := hA.n
    have h5 := hA.b
    intro hS hg
    obtain rfl : i = 16 := by omega
    refine z_iload dX9_rests_44 rfl ?_
    refine z_bipush (v := nI 16) dX9_rests_46 rfl ?_
    refine zn_icmp_ge (tgt := 65) dX9_rests_48 (by decide) (by omega) (by omega) (fun hc48 => ?_) (fun hc48 => by omega)
    refine z_aload_n dX9_rests_65 rfl ?_
    refine z_iconst (v := nI 0) dX9_rests_66 rfl ?_
    refine y_putI dX9_rests_67 lp_X9_272 rfl rfl ?_
    refine z_aload_n dX9_rests_70 rfl ?_
    refine z_bipush (v := -9) dX9_rests_71 rfl ?_
    refine y_putI dX9_rests_73 lp_X9_275 rfl rfl ?_
    refine z_iconst (v := nI 0) dX9_rests_76 rfl ?_
    refine z_istore4 dX9_rests_77 rfl ?_
    exact r_rests_l hA hC hk hf d 16 0 _ (by omega) (Sm_tr (Sm_l hS) (Sm_tr (Sm_u (by unfold live; omega)) (Sm_u (by unfold live; omega)))) (fun q hq => by rw [u2_a (by decide), u2_a (by decide), u2_a (by decide), u2_a (by decide)]; exact hg q hq) (by rw [u2_k (by decide), u2_s]; rfl) (by rw [u2_s]; rfl)
  | succ n ih =>
    intro i mu1 hi
    have hp := hA.1
    have hV := hA.2.1
    have h20 : pw (aP A) * ph (aP A) ≤ 20 := hA.n
    have h5 := hA.b
    intro hS hg
    obtain ⟨hM, hG, -⟩ := MR_s hC (Sm_l hS)
    refine z_iload dX9_rests_44 rfl ?_
    refine z_bipush (v := nI 16) dX9_rests_46 rfl ?_
    refine zn_icmp_ge (tgt := 65) dX9_rests_48 (by decide) (by omega) (by omega) (fun hc48 => by omega) (fun hc48 => ?_)
    refine z_aload_n dX9_rests_51 rfl ?_
    refine z_iload_n dX9_rests_52 rfl ?_
    refine z_iload_n dX9_rests_53 rfl ?_
    refine z_iload dX9_rests_54 rfl ?_
    refine y_callV3 (M' := M_X9_layGains) dX9_rests_56 lm_X9_268 cv_X9_layGains rfl (Nat.le_of_ble_eq_true rfl) (Nat.le_of_ble_eq_true rfl) rfl (m_layGains hp hM hG hV ha hb hab (k := i) (by omega) _) (fun r mu2 nu2 hq => ?_)
    obtain ⟨rfl, rfl, hS2, q1, q2, q3⟩ := hq
    refine zn_iinc4 dX9_rests_59 rfl ?_
    refine z_goto (tgt := 44) dX9_rests_62 (by decide) ?_
    refine ih (i + 1) mu2 (by omega) (Sl_tr hS hS2) (fun q hq => ?_)
    by_cases hqi : q = i
    · rw [hqi]; exact ⟨q1, q2⟩
    · rw [q3 _ (by omega) (by omega), q3 _ (by omega) (by omega)]; exact hg q (by omega)
set_option maxRecDepth 4000 in
theorem r_rests {X : zX} {mu : zmu} {nu : znu} {A : AS} (hA : AV A) (hC : MR A mu nu) (x y k : Int32) (d : Nat) : zJ X M_X9_rests (d + 10) 0 0 0 [.ref 66, .int x, .int y, .int k, zu, zu, zu] [] 86 (zEE (mu) (nu)) (zlift (QM (f_rests A x y k) mu nu)) := by
  have hp := hA.1
  have hV := hA.2.1
  have h20 : pw (aP A) * ph (aP A) ≤ 20 := hA.n
  have h5 := hA.b
  refine z_aload_n dX9_rests_0 rfl ?_
  refine z_iconst (v := nI 0) dX9_rests_1 rfl ?_
  refine y_putI dX9_rests_2 lp_X9_75 rfl rfl ?_
  refine zJ_mono (Q := QM (f_rests A x y k) (u2 mu 66 0 (nI 0)) nu) ?_ QM_th
  replace hC := MR_m hC (Sm_th (mu := mu) (v := nI 0)) rfl
  generalize u2 mu 66 0 (nI 0) = mu at hC ⊢
  obtain ⟨hM, hG, hB, hKe, hE, hT, hD⟩ := id hC
  refine z_aload_n dX9_rests_5 rfl ?_
  refine z_iload_n dX9_rests_6 rfl ?_
  refine y_callV1x (M' := M_X9_noBoy) dX9_rests_7 lm_X9_191 cv_X9_noBoy rfl (Nat.le_of_ble_eq_true rfl) (Nat.le_of_ble_eq_true rfl) rfl (m_noBoy hp hM x _) ?_
  refine zb_if_ne (tgt := 21) dX9_rests_10 (by decide) (fun hc10 => ?_) (fun hc10 => ?_)
  · have g : inr x (pb (aP A)) = false := by simpa using hc10
    refine z_iconst (v := -1) dX9_rests_21 rfl ?_
    exact y_ireturn dX9_rests_22 rfl (QM_rf hC (by simp [f_rests, g]))
  · refine z_aload_n dX9_rests_13 rfl ?_
    refine z_iload_n dX9_rests_14 rfl ?_
    refine y_callV1x (M' := M_X9_noBoy) dX9_rests_15 lm_X9_191 cv_X9_noBoy rfl (Nat.le_of_ble_eq_true rfl) (Nat.le_of_ble_eq_true rfl) rfl (m_noBoy hp hM y _) ?_
    refine zb_if_eq (tgt := 23) dX9_rests_18 (by decide) (fun hc18 => ?_) (fun hc18 => ?_)
    · have g : inr x (pb (aP A)) = true := by simpa using hc10
      have g2 : inr y (pb (aP A)) = true := by simpa using hc18
      obtain ⟨a, ha, rfl⟩ := inr_t (show inr x (pb (aP A)) = true from g) (by omega)
      obtain ⟨b, hb, rfl⟩ := inr_t (show inr y (pb (aP A)) = true from g2) (by omega)
      refine z_iload_n dX9_rests_23 rfl ?_
      refine z_iload_n dX9_rests_24 rfl ?_
      refine z_icmp_eq (tgt := 38) dX9_rests_25 (by decide) (fun hc25 => ?_) (fun hc25 => ?_)
      · refine z_bipush (v := -2) dX9_rests_38 rfl ?_
        exact y_ireturn dX9_rests_40 rfl (QM_rf hC (by simp only [f_rests, g, g2, true_and, if_true]; rw [if_pos (Or.inl hc25)]))
      · refine z_iload_n dX9_rests_28 rfl ?_
        refine z_i2l dX9_rests_29 ?_
        refine z_lconst (v := 0) dX9_rests_30 rfl ?_
        refine z_lconst (v := 1) dX9_rests_31 rfl ?_
        refine y_callS3x (M' := M_X9_in) dX9_rests_32 lm_X9_81 cs_X9_in (Nat.le_of_ble_eq_true rfl) (Nat.le_of_ble_eq_true rfl) rfl (m_in _ _ _ _) ?_
        rw [in_01]
        refine zb_if_ne (tgt := 41) dX9_rests_35 (by decide) (fun hc35 => ?_) (fun hc35 => ?_)
        · have g3 := inr2_t hc35
          have hab : a ≠ b := fun e => hc25 (by rw [e])
          refine z_iconst (v := nI 0) dX9_rests_41 rfl ?_
          refine z_istore4 dX9_rests_42 rfl ?_
          have e : f_rests A (nI a) (nI b) k = ((if k = 0 then nI (bcnt (rsA A a b) 16) else o9 (rfst (rsA A a b) 16)), A) := by simp only [f_rests, g, g2, true_and, if_true]; rw [if_neg (by rintro (h | h); exact hc25 h; exact h g3), ix_nI (show a < 2 ^ 31 by omega), ix_nI (show b < 2 ^ 31 by omega)]
          rw [e]
          exact r_restsG hA hC ha hb hab g3 rfl d 16 0 mu (by omega) (fun _ _ _ _ => rfl) (fun q hq => absurd hq (Nat.not_lt_zero _))
        · have g3 := inr2_f hc35
          refine z_bipush (v := -2) dX9_rests_38 rfl ?_
          exact y_ireturn dX9_rests_40 rfl (QM_rf hC (by simp [f_rests, g, g2, g3.1, g3.2]))
    · have g : inr y (pb (aP A)) = false := by simpa using hc18
      refine z_iconst (v := -1) dX9_rests_21 rfl ?_
      exact y_ireturn dX9_rests_22 rfl (QM_rf hC (by simp [f_rests, g]))
