set_option maxRecDepth 4000 in
theorem m_note2 {X : zX} {mu : zmu} {nu : znu} {k : Nat} (hk : mu 66 20 = nI k) (h14 : k < 14) (d : Nat) : ∀ n i , i + n = 16 → zJ X M_X9_note d 0 0 51 [.ref 66, .int (nI i)] [] 86 (zEE (uR mu 75 (cpo (16 * k) (mu 73) (mu 75) i)) (nu)) (zlift (zex none (u2 (uR mu 75 (cpo (16 * k) (mu 73) (mu 75) 16)) 66 20 (nI (k + 1))) nu)) := by
  intro n
  induction n with
  | zero =>
    intro i  hi
    obtain rfl : i = 16 := by omega
    refine z_iload_n dX9_note_51 rfl ?_
    refine z_bipush (v := nI 16) dX9_note_52 rfl ?_
    refine zn_icmp_ge (tgt := 83) dX9_note_54 (by decide) (by omega) (by omega) (fun hc54 => ?_) (fun hc54 => by omega)
    refine z_aload_n dX9_note_83 rfl ?_
    refine z_dup dX9_note_84 rfl ?_
    refine y_getIe dX9_note_85 lf_X9_131 rfl rfl ((congrFun (uR_a (by decide)) 20).trans hk) ?_
    refine z_iconst (v := nI 1) dX9_note_88 rfl ?_
    refine zn_iadd dX9_note_89 ?_
    refine y_putI dX9_note_90 lp_X9_131 rfl rfl ?_
    exact y_return dX9_note_93 rfl ⟨rfl, rfl, rfl⟩
  | succ n ih =>
    intro i  hi
    refine z_iload_n dX9_note_51 rfl ?_
    refine z_bipush (v := nI 16) dX9_note_52 rfl ?_
    refine zn_icmp_ge (tgt := 83) dX9_note_54 (by decide) (by omega) (by omega) (fun hc54 => by omega) (fun hc54 => ?_)
    refine z_aload_n dX9_note_57 rfl ?_
    refine y_getR dX9_note_58 lf_X9_41 rfl rfl ?_
    refine z_bipush (v := nI 16) dX9_note_61 rfl ?_
    refine z_aload_n dX9_note_63 rfl ?_
    refine y_getIe dX9_note_64 lf_X9_131 rfl rfl ((congrFun (uR_a (by decide)) 20).trans hk) ?_
    refine zn_imul dX9_note_67 ?_
    refine z_iload_n dX9_note_68 rfl ?_
    refine zn_iadd dX9_note_69 ?_
    refine z_aload_n dX9_note_70 rfl ?_
    refine y_getR dX9_note_71 lf_X9_35 rfl rfl ?_
    refine z_iload_n dX9_note_74 rfl ?_
    refine y_ialde dX9_note_75 rfl (by decide) (by omega) (congrFun (uR_a (by decide)) i) ?_
    refine y_iast dX9_note_76 rfl (by decide) (by omega) ?_
    rw [cpo_s]
    refine zn_iinc1 dX9_note_77 rfl ?_
    refine z_goto (tgt := 51) dX9_note_80 (by decide) ?_
    exact ih (i + 1) (by omega)
set_option maxRecDepth 4000 in
theorem m_note1 {X : zX} {mu : zmu} {nu : znu} (hk : mu 66 20 = nI 14) (d : Nat) : ∀ n i , i + n = 208 → zJ X M_X9_note d 0 0 11 [.ref 66, .int (nI i)] [] 86 (zEE (uR mu 75 (cpo 0 (fun j => mu 75 (j + 16)) (mu 75) i)) (nu)) (zlift (zex none (u2 (uR (u2 (uR mu 75 (cpo 0 (fun j => mu 75 (j + 16)) (mu 75) 208)) 66 20 (nI 13)) 75 (cpo (16 * 13) (mu 73) ((uR mu 75 (cpo 0 (fun j => mu 75 (j + 16)) (mu 75) 208)) 75) 16)) 66 20 (nI 14)) nu)) := by
  intro n
  induction n with
  | zero =>
    intro i  hi
    obtain rfl : i = 208 := by omega
    refine z_iload_n dX9_note_11 rfl ?_
    refine z_sipush (v := nI 208) dX9_note_12 rfl ?_
    refine zn_icmp_ge (tgt := 39) dX9_note_15 (by decide) (by omega) (by omega) (fun hc15 => ?_) (fun hc15 => by omega)
    refine z_aload_n dX9_note_39 rfl ?_
    refine z_dup dX9_note_40 rfl ?_
    refine y_getIe dX9_note_41 lf_X9_131 rfl rfl ((congrFun (uR_a (by decide)) 20).trans hk) ?_
    refine z_iconst (v := nI 1) dX9_note_44 rfl ?_
    refine zn_isub dX9_note_45 (by omega) ?_
    refine y_putI dX9_note_46 lp_X9_131 rfl rfl ?_
    refine z_iconst (v := nI 0) dX9_note_49 rfl ?_
    refine z_istore1 dX9_note_50 rfl ?_
    have k := m_note2 (X := X) (nu := nu) (mu := u2 (uR mu 75 (cpo 0 (fun j => mu 75 (j + 16)) (mu 75) 208)) 66 20 (nI 13)) (k := 13) u2_s (by decide) d 16 0 (by omega)
    rw [cpo_0] at k
    have e73 : u2 (uR mu 75 (cpo 0 (fun j => mu 75 (j + 16)) (mu 75) 208)) 66 20 (nI 13) 73 = mu 73 := by rw [u2_rowa (by decide), uR_a (by decide)]
    have e75 : u2 (uR mu 75 (cpo 0 (fun j => mu 75 (j + 16)) (mu 75) 208)) 66 20 (nI 13) 75 = (uR mu 75 (cpo 0 (fun j => mu 75 (j + 16)) (mu 75) 208)) 75 := by rw [u2_rowa (by decide)]
    rw [e73, e75] at k
    exact k
  | succ n ih =>
    intro i  hi
    refine z_iload_n dX9_note_11 rfl ?_
    refine z_sipush (v := nI 208) dX9_note_12 rfl ?_
    refine zn_icmp_ge (tgt := 39) dX9_note_15 (by decide) (by omega) (by omega) (fun hc15 => by omega) (fun hc15 => ?_)
    refine z_aload_n dX9_note_18 rfl ?_
    refine y_getR dX9_note_19 lf_X9_41 rfl rfl ?_
    refine z_iload_n dX9_note_22 rfl ?_
    refine z_aload_n dX9_note_23 rfl ?_
    refine y_getR dX9_note_24 lf_X9_41 rfl rfl ?_
    refine z_iload_n dX9_note_27 rfl ?_
    refine z_bipush (v := nI 16) dX9_note_28 rfl ?_
    refine zn_iadd dX9_note_30 ?_
    refine y_ialde dX9_note_31 rfl (by decide) (by omega) (show (uR mu 75 (cpo 0 (fun j => mu 75 (j + 16)) (mu 75) i)) 75 (i + 16) = mu 75 (i + 16) by rw [uR_s, cpo_off (by omega)]) ?_
    refine y_iast dX9_note_32 rfl (by decide) (by omega) ?_
    have ec := cpo_s (mu := mu) (a := 75) (o := 0) (i := i) (f := fun j => mu 75 (j + 16)) (g := mu 75)
    rw [Nat.zero_add] at ec
    rw [ec]
    refine zn_iinc1 dX9_note_33 rfl ?_
    refine z_goto (tgt := 11) dX9_note_36 (by decide) ?_
    exact ih (i + 1) (by omega)
def Sn (mu mu1 : zmu) : Prop := (∀ x, x ≠ 66 → x ≠ 75 → mu1 x = mu x) ∧ ∀ j, j ≠ 20 → mu1 66 j = mu 66 j
def Qn (p : PT) (a : Nat × (Nat → SC)) (mu : zmu) (nu : znu) : zq := fun r mu1 nu1 => r = none ∧ nu1 = nu ∧ BK p a mu1 ∧ Sn mu mu1
theorem BK_push {p : PT} (hp : PV p) {a : Nat × (Nat → SC)} {s : SC} {mu : zmu} (h : BK p a mu) (hG : PG p s 73 mu) (h14 : a.1 < 14) : BK p (pushA a s) (u2 (uR mu 75 (cpo (16 * a.1) (mu 73) (mu 75) 16)) 66 20 (nI (a.1 + 1))) := by
  unfold pushA
  rw [if_pos h14]
  refine ⟨u2_s, fun i hi => ?_⟩
  have hi : i < a.1 + 1 := hi
  show PGo p (if i = a.1 then s else a.2 i) 75 (16 * i) _
  by_cases hia : i = a.1
  · rw [if_pos hia]
    refine PG_to hp hG (fun k hk => ?_)
    rw [u2_a (by decide), uR_s, hia, cpo_at hk]
  · rw [if_neg hia]
    refine PGo_f hp (h.2 i (by omega)) (fun k hk => ?_)
    rw [u2_a (by decide), uR_s, cpo_off (by omega)]
theorem BK_push14 {p : PT} (hp : PV p) {a : Nat × (Nat → SC)} {s : SC} {mu : zmu} (h : BK p a mu) (hG : PG p s 73 mu) (h14 : a.1 = 14) : BK p (pushA a s) (u2 (uR (u2 (uR mu 75 (cpo 0 (fun j => mu 75 (j + 16)) (mu 75) 208)) 66 20 (nI 13)) 75 (cpo (16 * 13) (mu 73) ((uR mu 75 (cpo 0 (fun j => mu 75 (j + 16)) (mu 75) 208)) 75) 16)) 66 20 (nI 14)) := by
  unfold pushA
  rw [if_neg (by omega)]
  refine ⟨u2_s, fun i hi => ?_⟩
  have hi : i < 14 := hi
  show PGo p (if i = 13 then s else a.2 (i + 1)) 75 (16 * i) _
  by_cases hia : i = 13
  · rw [if_pos hia]
    refine PG_to hp hG (fun k hk => ?_)
    rw [u2_a (by decide), uR_s, hia, cpo_at hk]
  · rw [if_neg hia]
    refine PGo_f hp (h.2 (i + 1) (by omega)) (fun k hk => ?_)
    rw [u2_a (by decide), uR_s, cpo_off (by omega), uR_s]
    have e := cpo_at (o := 0) (i := 208) (k := 16 * i + k) (f := fun j => mu 75 (j + 16)) (g := mu 75) (by omega)
    rw [Nat.zero_add] at e
    rw [e, show 16 * i + k + 16 = 16 * (i + 1) + k by omega]
set_option maxRecDepth 4000 in
theorem m_note {X : zX} {mu : zmu} {nu : znu} {p : PT} (hp : PV p) {a : Nat × (Nat → SC)} {s : SC} (h : BK p a mu) (hG : PG p s 73 mu) (h14 : a.1 ≤ 14) (d : Nat) : zJ X M_X9_note d 0 0 0 [.ref 66, zu] [] 86 (zEE (mu) (nu)) (zlift (Qn p (pushA a s) mu nu)) := by
  refine z_aload_n dX9_note_0 rfl ?_
  refine y_getIe dX9_note_1 lf_X9_131 rfl rfl h.1 ?_
  refine z_bipush (v := nI 14) dX9_note_4 rfl ?_
  refine zn_icmp_ne (tgt := 49) dX9_note_6 (by decide) (by omega) (by omega) (fun hc6 => ?_) (fun hc6 => ?_)
  · refine z_iconst (v := nI 0) dX9_note_49 rfl ?_
    refine z_istore1 dX9_note_50 rfl ?_
    have k := m_note2 (X := X) (nu := nu) h.1 (by omega) d 16 0 (by omega)
    rw [cpo_0] at k
    refine zJ_mono k ?_
    rintro r mu1 nu1 ⟨rfl, rfl, rfl⟩
    exact ⟨rfl, rfl, BK_push hp h hG (by omega), fun x h1 h2 => by rw [u2_rowa h1, uR_a h2], fun j hj => by rw [u2_k hj, uR_a (by decide)]⟩
  · refine z_iconst (v := nI 0) dX9_note_9 rfl ?_
    refine z_istore1 dX9_note_10 rfl ?_
    have k := m_note1 (X := X) (nu := nu) (mu := mu) (by rw [h.1, hc6]) d 208 0 (by omega)
    rw [cpo_0] at k
    refine zJ_mono k ?_
    rintro r mu1 nu1 ⟨rfl, rfl, rfl⟩
    exact ⟨rfl, rfl, BK_push14 hp h hG hc6, fun x h1 h2 => by rw [u2_rowa h1, uR_a h2, u2_rowa h1, uR_a h2], fun j hj => by rw [u2_k hj, uR_a (by decide), u2_k hj, uR_a (by decide)]⟩
theorem MR_note {A : AS} {mu mu1 : zmu} {nu : znu} (h : MR A mu nu) (hB : BK (aP A) (pushA (aA A) (aN A)) mu1) (e : Sn mu mu1) : MR (setA A (pushA (aA A) (aN A))) mu1 nu ∧ FrM mu nu mu1 nu := by
  obtain ⟨h1, h2, h3, h4, h5, h6, h7⟩ := h
  refine ⟨⟨?_, PG_e h2 (e.1 73 (by decide) (by decide)), hB, KM_e h4 (e.1 76 (by decide) (by decide)) (e.1 77 (by decide) (by decide)), SM_e h5 (e.2 23 (by decide)) (e.1 78 (by decide) (by decide)) (e.1 79 (by decide) (by decide)) (e.1 80 (by decide) (by decide)), TM_e h6 (e.2 2 (by decide)) (e.1 67 (by decide) (by decide)), h7⟩, fun a ha => e.1 a (by omega) (by omega), rfl⟩
  show PM (aP A) mu1
  unfold PM at *
  rw [e.2 4 (by decide), e.2 5 (by decide), e.2 6 (by decide), e.2 8 (by decide), e.1 68 (by decide) (by decide), e.1 69 (by decide) (by decide), e.1 70 (by decide) (by decide)]
  exact h1
theorem MR_now {A : AS} {mu mu1 : zmu} {nu : znu} {s : SC} (h : MR A mu nu) (hG : PG (aP A) s 73 mu1) (e : S8a 73 mu mu1) : MR (setN A s) mu1 nu ∧ FrM mu nu mu1 nu := by
  obtain ⟨h1, h2, h3, h4, h5, h6, h7⟩ := h
  have e66 := e 66 (by decide) (by decide)
  exact ⟨⟨PM_8 h1 p73 e, hG, BK_e h3 (by rw [e66]) (e 75 (by decide) (by decide)), KM_e h4 (e 76 (by decide) (by decide)) (e 77 (by decide) (by decide)), SM_e h5 (by rw [e66]) (e 78 (by decide) (by decide)) (e 79 (by decide) (by decide)) (e 80 (by decide) (by decide)), TM_e h6 (by rw [e66]) (e 67 (by decide) (by decide)), h7⟩, fun a ha => e a (by omega) (by omega), rfl⟩
theorem PG_cut {p : PT} {s : SC} {a c : Nat} {mu : zmu} (hp : PV p) (hG : PG p s a mu) : PG p (cuS s c) a (u2 mu a 15 (nI (s.2 ||| 1 * 2 ^ c))) := by
  have h5 := hp.2.2.2.2.2.1
  refine ⟨fun b hb => ?_, by rw [u2_s, Nat.one_mul]; rfl⟩
  rw [u2_k (show b ≠ 15 by omega), u2_k (show 5 + b ≠ 15 by omega), u2_k (show 10 + b ≠ 15 by omega)]
  exact hG.1 b hb
theorem Qp_no {p : PT} {s : SC} {t : Nat} {mu : zmu} {nu : znu} (e : dod p s t = (false, s)) (hG : PG p s 74 mu) : Qp p (dod p s t).2 74 (some (.int (b2i (dod p s t).1))) mu nu (some (.int (nI 0))) mu nu := by rw [e]; exact ⟨rfl, rfl, hG, S8a_rf⟩
theorem dod_def (p : PT) (s : SC) (t : Nat) : dod p s t = dos p s (t / 100) (t / 10 % 10) (t % 10) := rfl
set_option maxRecDepth 4000 in
theorem m_does {X : zX} {mu : zmu} {nu : znu} {p : PT} {s : SC} (hp : PV p) (hM : PM p mu) (hG : PG p s 74 mu) (hV : SVs p s) {t : Nat} (ht : t < 1000) (d : Nat) : zJ X M_X9_does (d + 5) 0 0 0 [.ref 66, .int (nI t), zu, zu] [] 86 (zEE (mu) (nu)) (zlift (Qp p (dod p s t).2 74 (some (.int (b2i (dod p s t).1))) mu nu)) := by
  have h5 := hp.2.2.2.2.2.1
  have h20 := hp.n20
  have ea : t % 100 / 10 = t / 10 % 10 := by omega
  have ec : t % 100 % 10 = t % 10 := by omega
  have et : t % 100 = t / 10 % 10 * 10 + t % 10 := by omega
  have hcl : s.2 < 2 ^ 20 := hV.2
  refine z_iload_n dX9_does_0 rfl ?_
  refine z_bipush (v := nI 100) dX9_does_1 rfl ?_
  refine zn_idiv dX9_does_3 (by omega) (by omega) (by omega) ?_
  refine z_istore2 dX9_does_4 rfl ?_
  refine z_iload_n dX9_does_5 rfl ?_
  refine z_bipush (v := nI 100) dX9_does_6 rfl ?_
  refine zn_irem dX9_does_8 (by omega) (by omega) (by omega) ?_
  refine z_istore3 dX9_does_9 rfl ?_
  refine z_iload_n dX9_does_10 rfl ?_
  refine z_iconst (v := nI 1) dX9_does_11 rfl ?_
  refine zn_icmp_ne (tgt := 61) dX9_does_12 (by decide) (by omega) (by omega) (fun hc12 => ?_) (fun hc12 => ?_)
  · refine z_iload_n dX9_does_61 rfl ?_
    refine z_iconst (v := nI 2) dX9_does_62 rfl ?_
    refine zn_icmp_ne (tgt := 85) dX9_does_63 (by decide) (by omega) (by omega) (fun hc63 => ?_) (fun hc63 => ?_)
    · refine z_iload_n dX9_does_85 rfl ?_
      refine z_iconst (v := nI 3) dX9_does_86 rfl ?_
      refine zn_icmp_ne (tgt := 126) dX9_does_87 (by decide) (by omega) (by omega) (fun hc87 => ?_) (fun hc87 => ?_)
      · refine z_iload_n dX9_does_126 rfl ?_
        refine z_iconst (v := nI 4) dX9_does_127 rfl ?_
        refine zn_icmp_ne (tgt := 155) dX9_does_128 (by decide) (by omega) (by omega) (fun hc128 => ?_) (fun hc128 => ?_)
        · refine z_iconst (v := nI 0) dX9_does_155 rfl ?_
          exact y_zreturn dX9_does_156 rfl (Or.inl rfl) (Qp_no (by simp [dod, dos, hc12, hc63, hc87, hc128]) hG)
        · have ew : t / 100 = 4 := hc128
          refine z_aload_n dX9_does_131 rfl ?_
          refine z_iload_n dX9_does_132 rfl ?_
          refine y_callV1x (M' := M_X9_noBoy) dX9_does_133 lm_X9_191 cv_X9_noBoy rfl (Nat.le_of_ble_eq_true rfl) (Nat.le_of_ble_eq_true rfl) rfl (m_noBoy hp hM _ _) ?_
          rw [inr_nI (by omega) (by omega)]
          refine zb_if_ne (tgt := 155) dX9_does_136 (by decide) (fun hc136 => ?_) (fun hc136 => ?_)
          · have hnb : ¬ t % 100 < pb p := by simpa using hc136
            refine z_iconst (v := nI 0) dX9_does_155 rfl ?_
            exact y_zreturn dX9_does_156 rfl (Or.inl rfl) (Qp_no (by simp only [dod, dos, ew]; simp; intro h1 h2; omega) hG)
          · have hnb : t % 100 < pb p := by simpa using hc136
            have e0 : t / 10 % 10 = 0 := by omega
            have e9 : t % 10 = t % 100 := by omega
            have e : dod p s t = (hmf p s.1 (t % 100), s) := by simp only [dod, dos, ew, e0, e9]; simp [hmf, hnb]; rfl
            rw [e]
            refine z_aload_n dX9_does_139 rfl ?_
            refine z_aload_n dX9_does_140 rfl ?_
            refine y_getR dX9_does_141 lf_X9_38 rfl rfl ?_
            refine z_iload_n dX9_does_144 rfl ?_
            refine y_callV2x (M' := M_X9_isHome) dX9_does_145 lm_X9_162 cv_X9_isHome rfl (Nat.le_of_ble_eq_true rfl) (Nat.le_of_ble_eq_true rfl) rfl (m_isHome hp hM p74 hG hV hnb _) ?_
            refine zb_if_eq (tgt := 155) dX9_does_148 (by decide) (fun hc148 => ?_) (fun hc148 => ?_)
            · refine z_iconst (v := nI 0) dX9_does_155 rfl ?_
              exact y_zreturn dX9_does_156 rfl (Or.inl rfl) ⟨by rw [hc148]; rfl, rfl, hG, S8a_rf⟩
            · refine z_iconst (v := nI 1) dX9_does_151 rfl ?_
              refine z_goto (tgt := 156) dX9_does_152 (by decide) ?_
              exact y_zreturn dX9_does_156 rfl (Or.inr rfl) ⟨by rw [hc148]; rfl, rfl, hG, S8a_rf⟩
      · have ew : t / 100 = 3 := hc87
        refine z_aload_n dX9_does_90 rfl ?_
        refine z_iload_n dX9_does_91 rfl ?_
        refine y_callV1x (M' := M_X9_noCell) dX9_does_92 lm_X9_180 cv_X9_noCell rfl (Nat.le_of_ble_eq_true rfl) (Nat.le_of_ble_eq_true rfl) rfl (m_noCell hp hM _ _) ?_
        rw [inr_nI (by omega) (by omega)]
        refine zb_if_ne (tgt := 126) dX9_does_95 (by decide) (fun hc95 => ?_) (fun hc95 => ?_)
        · have hnc : ¬ t / 10 % 10 * 10 + t % 10 < pw p * ph p := by rw [← et]; simpa using hc95
          refine z_iload_n dX9_does_126 rfl ?_
          refine z_iconst (v := nI 4) dX9_does_127 rfl ?_
          refine zn_icmp_ne (tgt := 155) dX9_does_128 (by decide) (by omega) (by omega) (fun hc128 => ?_) (fun hc128 => by omega)
          refine z_iconst (v := nI 0) dX9_does_155 rfl ?_
          exact y_zreturn dX9_does_156 rfl (Or.inl rfl) (Qp_no (by simp [dod, dos, ew, hnc]) hG)
        · have hnc : t % 100 < pw p * ph p := by simpa using hc95
          have hk3 := kdk_le hp (cut := s.2) hnc
          refine z_aload_n dX9_does_98 rfl ?_
          refine z_aload_n dX9_does_99 rfl ?_
          refine y_getR dX9_does_100 lf_X9_38 rfl rfl ?_
          refine z_iload_n dX9_does_103 rfl ?_
          refine y_callV2x (M' := M_X9_kindOf) dX9_does_104 lm_X9_144 cv_X9_kindOf rfl (Nat.le_of_ble_eq_true rfl) (Nat.le_of_ble_eq_true rfl) rfl (m_kindOf hp hM p74 hG hV hnc _) ?_
          refine z_iconst (v := nI 1) dX9_does_107 rfl ?_
          refine zn_icmp_ne (tgt := 126) dX9_does_108 (by decide) (by omega) (by omega) (fun hc108 => ?_) (fun hc108 => ?_)
          · have hkk : ¬ kdk (pK p) s.2 (t / 10 % 10 * 10 + t % 10) = 1 := by rw [← et]; exact hc108
            refine z_iload_n dX9_does_126 rfl ?_
            refine z_iconst (v := nI 4) dX9_does_127 rfl ?_
            refine zn_icmp_ne (tgt := 155) dX9_does_128 (by decide) (by omega) (by omega) (fun hc128 => ?_) (fun hc128 => by omega)
            refine z_iconst (v := nI 0) dX9_does_155 rfl ?_
            exact y_zreturn dX9_does_156 rfl (Or.inl rfl) (Qp_no (by simp [dod, dos, ew, hkk]) hG)
          · have e : dod p s t = (true, cuS s (t % 100)) := by rw [et] at hnc hc108 ⊢; simp [dod, dos, ew, hnc, hc108]
            rw [e]
            refine z_aload_n dX9_does_111 rfl ?_
            refine y_getR dX9_does_112 lf_X9_38 rfl rfl ?_
            refine z_bipush (v := nI 15) dX9_does_115 rfl ?_
            refine z_dup2 dX9_does_117 rfl rfl ?_
            refine y_ialde dX9_does_118 rfl (by decide) (by omega) hG.2 ?_
            refine z_iconst (v := nI 1) dX9_does_119 rfl ?_
            refine z_iload_n dX9_does_120 rfl ?_
            refine zn_ishl dX9_does_121 (by omega) (by have : 1 * 2 ^ (t % 100) ≤ 1 * 2 ^ 20 := Nat.mul_le_mul_left 1 (Nat.pow_le_pow_right (by decide) (by omega)); omega) ?_
            refine zn_ior dX9_does_122 ?_
            refine y_iast dX9_does_123 rfl (by decide) (by omega) ?_
            refine z_iconst (v := nI 1) dX9_does_124 rfl ?_
            exact y_zreturn dX9_does_125 rfl (Or.inr rfl) ⟨rfl, rfl, PG_cut hp hG, S8a_u⟩
    · have ew : t / 100 = 2 := hc63
      refine z_aload_n dX9_does_66 rfl ?_
      refine z_iload_n dX9_does_67 rfl ?_
      refine y_callV1x (M' := M_X9_noCell) dX9_does_68 lm_X9_180 cv_X9_noCell rfl (Nat.le_of_ble_eq_true rfl) (Nat.le_of_ble_eq_true rfl) rfl (m_noCell hp hM _ _) ?_
      rw [inr_nI (by omega) (by omega)]
      refine zb_if_ne (tgt := 85) dX9_does_71 (by decide) (fun hc71 => ?_) (fun hc71 => ?_)
      · have hnc : ¬ t / 10 % 10 * 10 + t % 10 < pw p * ph p := by rw [← et]; simpa using hc71
        refine z_iload_n dX9_does_85 rfl ?_
        refine z_iconst (v := nI 3) dX9_does_86 rfl ?_
        refine zn_icmp_ne (tgt := 126) dX9_does_87 (by decide) (by omega) (by omega) (fun hc87 => ?_) (fun hc87 => by omega)
        refine z_iload_n dX9_does_126 rfl ?_
        refine z_iconst (v := nI 4) dX9_does_127 rfl ?_
        refine zn_icmp_ne (tgt := 155) dX9_does_128 (by decide) (by omega) (by omega) (fun hc128 => ?_) (fun hc128 => by omega)
        refine z_iconst (v := nI 0) dX9_does_155 rfl ?_
        exact y_zreturn dX9_does_156 rfl (Or.inl rfl) (Qp_no (by simp [dod, dos, ew, hnc]) hG)
      · have hnc : t % 100 < pw p * ph p := by simpa using hc71
        have e : dod p s t = (true, brS' p s (t % 100)) := by rw [et] at hnc ⊢; simp [dod, dos, ew, hnc]
        rw [e]
        refine z_aload_n dX9_does_74 rfl ?_
        refine z_aload_n dX9_does_75 rfl ?_
        refine y_getR dX9_does_76 lf_X9_38 rfl rfl ?_
        refine z_iload_n dX9_does_79 rfl ?_
        refine y_callV2 (M' := M_X9_goCall) dX9_does_80 lm_X9_209 cv_X9_goCall rfl (Nat.le_of_ble_eq_true rfl) (Nat.le_of_ble_eq_true rfl) rfl (m_goCall hp hM p74 hG hV hnc _) (fun r mu1 nu1 hq => ?_)
        obtain ⟨rfl, rfl, hG1, hS1⟩ := hq
        refine z_iconst (v := nI 1) dX9_does_83 rfl ?_
        exact y_zreturn dX9_does_84 rfl (Or.inr rfl) ⟨rfl, rfl, hG1, hS1⟩
  · have ew : t / 100 = 1 := hc12
    refine z_aload_n dX9_does_15 rfl ?_
    refine z_iload_n dX9_does_16 rfl ?_
    refine z_bipush (v := nI 10) dX9_does_17 rfl ?_
    refine zn_idiv dX9_does_19 (by omega) (by omega) (by omega) ?_
    refine y_callV1x (M' := M_X9_noBoy) dX9_does_20 lm_X9_191 cv_X9_noBoy rfl (Nat.le_of_ble_eq_true rfl) (Nat.le_of_ble_eq_true rfl) rfl (m_noBoy hp hM _ _) ?_
    rw [inr_nI (by omega) (by omega)]
    refine zb_if_ne (tgt := 59) dX9_does_23 (by decide) (fun hc23 => ?_) (fun hc23 => ?_)
    · have hnb : ¬ t / 10 % 10 < pb p := by rw [← ea]; simpa using hc23
      refine z_iconst (v := nI 0) dX9_does_59 rfl ?_
      exact y_zreturn dX9_does_60 rfl (Or.inl rfl) (Qp_no (by simp [dod, dos, ew, hnb]) hG)
    · have hnb : t / 10 % 10 < pb p := by rw [← ea]; simpa using hc23
      refine z_iload_n dX9_does_26 rfl ?_
      refine z_bipush (v := nI 10) dX9_does_27 rfl ?_
      refine zn_irem dX9_does_29 (by omega) (by omega) (by omega) ?_
      refine y_callS1x (M' := M_X9_noWay) dX9_does_30 lm_X9_184 cs_X9_noWay (Nat.le_of_ble_eq_true rfl) (Nat.le_of_ble_eq_true rfl) rfl (m_noWay _ _) ?_
      rw [inr_nI (by omega) (by decide)]
      refine zb_if_ne (tgt := 59) dX9_does_33 (by decide) (fun hc33 => ?_) (fun hc33 => ?_)
      · have hnw : ¬ t % 10 < 4 := by rw [← ec]; simpa using hc33
        refine z_iconst (v := nI 0) dX9_does_59 rfl ?_
        exact y_zreturn dX9_does_60 rfl (Or.inl rfl) (Qp_no (by simp [dod, dos, ew, hnw]) hG)
      · have hnw : t % 10 < 4 := by rw [← ec]; simpa using hc33
        have e : dod p s t = ((pon p s.2 (t / 10 % 10) (s.1 (t / 10 % 10)) (t % 10)).isSome, goS p s (t / 10 % 10) (t % 10)) := by simp [dod, dos, ew, hnb, hnw]
        rw [e]
        refine z_aload_n dX9_does_36 rfl ?_
        refine z_aload_n dX9_does_37 rfl ?_
        refine y_getR dX9_does_38 lf_X9_38 rfl rfl ?_
        refine z_iload_n dX9_does_41 rfl ?_
        refine z_bipush (v := nI 10) dX9_does_42 rfl ?_
        refine zn_idiv dX9_does_44 (by omega) (by omega) (by omega) ?_
        rw [ea]
        refine z_iload_n dX9_does_45 rfl ?_
        refine z_bipush (v := nI 10) dX9_does_46 rfl ?_
        refine zn_irem dX9_does_48 (by omega) (by omega) (by omega) ?_
        rw [ec]
        refine y_callV3 (M' := M_X9_goStep) dX9_does_49 lm_X9_200 cv_X9_goStep rfl (Nat.le_of_ble_eq_true rfl) (Nat.le_of_ble_eq_true rfl) rfl (m_goStep hp hM p74 hG hV hnb hnw _) (fun r mu1 nu1 hq => ?_)
        obtain ⟨rfl, rfl, hG1, hS1⟩ := hq
        refine zb_if_eq (tgt := 59) dX9_does_52 (by decide) (fun hc52 => ?_) (fun hc52 => ?_)
        · refine z_iconst (v := nI 0) dX9_does_59 rfl ?_
          exact y_zreturn dX9_does_60 rfl (Or.inl rfl) ⟨by rw [hc52]; rfl, rfl, hG1, hS1⟩
        · refine z_iconst (v := nI 1) dX9_does_55 rfl ?_
          refine z_goto (tgt := 60) dX9_does_56 (by decide) ?_
          exact y_zreturn dX9_does_60 rfl (Or.inr rfl) ⟨by rw [hc52]; rfl, rfl, hG1, hS1⟩
