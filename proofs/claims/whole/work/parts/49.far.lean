/-- the reference's number of a place, and back -/
def num (q : Nat) : Nat := (q % 20 * 7 + q / 20 % 7) * 7 + q / 140
def nump (m : Nat) : Nat := m / 49 + 20 * (m / 7 % 7) + 140 * (m % 7)
theorem num_try : tryN 980 (fun q => nump (num q) == q && (num (nump q) == q && (num q / 49 == q % 20 && (num q / 7 % 7 == q / 20 % 7 && num q % 7 == q / 140)))) = true := by decide +kernel
theorem num_all {q : Nat} (h : q < 980) : nump (num q) = q ∧ num (nump q) = q ∧ num q / 49 = q % 20 ∧ num q / 7 % 7 = q / 20 % 7 ∧ num q % 7 = q / 140 := by
  have g := tryN_at num_try h
  simp only [Bool.and_eq_true, beq_iff_eq] at g
  exact g
theorem num_lt {q : Nat} (h : q < 980) : num q < 980 := by unfold num; omega
theorem nump_lt {m : Nat} (h : m < 980) : nump m < 980 := by unfold nump; omega
theorem num_p {m : Nat} (h : m < 980) : num (nump m) = m := (num_all h).2.1
theorem nump_n {q : Nat} (h : q < 980) : nump (num q) = q := (num_all h).1
theorem num_inj {q q' : Nat} (h : q < 980) (h' : q' < 980) (e : num q = num q') : q = q' := by rw [← nump_n h, ← nump_n h', e]
theorem num_c {q : Nat} (h : q < 980) : num q / 49 = q % 20 ∧ num q / 7 % 7 = q / 20 % 7 ∧ num q % 7 = q / 140 := (num_all h).2.2
def o8 (r : Nat) : Int32 := if r = 0 then -9 else nI (r - 1)
/-- far and queue -/
def FR (st : BS) (mu : zmu) : Prop := (∀ q, q < 980 → mu 82 (num q) = o8 (st.2.2 q)) ∧ ∀ j, j < st.1 → mu 83 j = nI (num (st.2.1 j))
def Sf (mu mu1 : zmu) : Prop := ∀ x, x ≠ 81 → x ≠ 82 → x ≠ 83 → mu1 x = mu x
theorem Sf_rf {mu : zmu} : Sf mu mu := fun _ _ _ _ => rfl
theorem Sf_tr {m1 m2 m3 : zmu} (h : Sf m1 m2) (g : Sf m2 m3) : Sf m1 m3 := fun x a b c => (g x a b c).trans (h x a b c)
theorem Sf_S {mu mu1 : zmu} (h : S81 mu mu1) : Sf mu mu1 := fun x a _ _ => h x a
theorem Sf_u2 {mu : zmu} {k : Nat} {v : Int32} : Sf mu (u2 mu 82 k v) := fun x _ b _ => u2_rowa b
theorem Sf_u3 {mu : zmu} {k : Nat} {v : Int32} : Sf mu (u2 mu 83 k v) := fun x _ _ c => u2_rowa c
theorem Sf_R {mu : zmu} {f : Nat → Int32} : Sf mu (uR mu 82 f) := fun x _ b _ => uR_a b
theorem Sm_f {mu mu1 : zmu} (h : Sf mu mu1) : Sm mu mu1 := fun a j hl => congrFun (h a (by unfold live at hl; omega) (by unfold live at hl; omega) (by unfold live at hl; omega)) j
theorem FR_S {st : BS} {mu mu1 : zmu} (h : FR st mu) (e : S81 mu mu1) : FR st mu1 := by unfold FR at *; rw [e 82 (by decide), e 83 (by decide)]; exact h
theorem FR_put {st : BS} {mu : zmu} {q v : Nat} (h : FR st mu) (hq : q < 980) : FR (bput st q (v + 1)) (u2 (u2 mu 82 (num q) (nI v)) 83 st.1 (nI (num q))) := by
  refine ⟨fun x hx => ?_, fun j hj => ?_⟩
  · show _ = o8 (if x = q then v + 1 else st.2.2 x)
    rw [u2_a (by decide)]
    by_cases e : x = q
    · rw [e, u2_s, if_pos rfl]; rfl
    · rw [u2_k (fun e2 => e (num_inj hx hq e2)), if_neg e]; exact h.1 x hx
  · have hj : j < st.1 + 1 := hj
    show _ = nI (num (if j = st.1 then q else st.2.1 j))
    by_cases e : j = st.1
    · rw [e, u2_s, if_pos rfl]
    · rw [u2_k e, if_neg e, u2_a (by decide)]; exact h.2 j (by omega)
theorem o8_m9 {r : Nat} (h : r ≤ 980) : o8 r = -9 ↔ r = 0 := by
  unfold o8
  by_cases e : r = 0
  · rw [if_pos e]; exact ⟨fun _ => e, fun _ => rfl⟩
  · rw [if_neg e]; exact ⟨fun g => absurd g (nI_m9 (by omega)), fun g => absurd g e⟩
theorem o8_s {r : Nat} (h : r ≠ 0) : o8 r = nI (r - 1) := if_neg h
set_option maxRecDepth 4000 in
theorem m_spotNumber {X : zX} {mu : zmu} {nu : znu} {c x z : Nat} (h0 : mu 81 0 = nI c) (h1 : mu 81 1 = nI x) (h2 : mu 81 2 = nI z) (d : Nat) : zJ X M_X9_spotNumber d 0 0 0 [.ref 66] [] 86 (zEE (mu) (nu)) (zlift (zex (some (.int (nI ((c * 7 + x) * 7 + z)))) mu nu)) := by
  refine z_aload_n dX9_spotNumber_0 rfl ?_
  refine y_getR dX9_spotNumber_1 lf_X9_60 rfl rfl ?_
  refine z_iconst (v := nI 0) dX9_spotNumber_4 rfl ?_
  refine y_ialde dX9_spotNumber_5 rfl (by decide) (by omega) h0 ?_
  refine z_bipush (v := nI 7) dX9_spotNumber_6 rfl ?_
  refine zn_imul dX9_spotNumber_8 ?_
  refine z_aload_n dX9_spotNumber_9 rfl ?_
  refine y_getR dX9_spotNumber_10 lf_X9_60 rfl rfl ?_
  refine z_iconst (v := nI 1) dX9_spotNumber_13 rfl ?_
  refine y_ialde dX9_spotNumber_14 rfl (by decide) (by omega) h1 ?_
  refine zn_iadd dX9_spotNumber_15 ?_
  refine z_bipush (v := nI 7) dX9_spotNumber_16 rfl ?_
  refine zn_imul dX9_spotNumber_18 ?_
  refine z_aload_n dX9_spotNumber_19 rfl ?_
  refine y_getR dX9_spotNumber_20 lf_X9_60 rfl rfl ?_
  refine z_iconst (v := nI 2) dX9_spotNumber_23 rfl ?_
  refine y_ialde dX9_spotNumber_24 rfl (by decide) (by omega) h2 ?_
  refine zn_iadd dX9_spotNumber_25 ?_
  exact y_ireturn dX9_spotNumber_26 rfl ⟨rfl, rfl, rfl⟩
set_option maxRecDepth 4000 in
theorem m_far_in {X : zX} {mu : zmu} {nu : znu} {p : PT} {s : SC} (hp : PV p) (hM : PM p mu) (hG : PG p s 73 mu) (hV : SVs p s) {b k : Nat} (hb : b < pb p) {st : BS} (hI : BI (vpl p) (st.2.2 (st.2.1 k) + 1) st) (hk : k < st.1) {Q : zq} (d : Nat) (kk : ∀ mu9, Sf mu mu9 → FR (bwys (nbr p s.2 b) (st.2.1 k) (st.2.2 (st.2.1 k)) st 4) mu9 → zJ X M_X9_layFar (d + 3) 0 0 233 [.ref 66, .int (nI b), zu, .int (nI (k + 1)), .int (nI ((bwys (nbr p s.2 b) (st.2.1 k) (st.2.2 (st.2.1 k)) st 4).1)), .int (nI (num (st.2.1 k))), .int (nI 4), zu, zu] [] 86 (zEE (mu9) (nu)) (zlift (Q))) : ∀ n i mu1, i + n = 4 → Sf mu mu1 → FR (bwys (nbr p s.2 b) (st.2.1 k) (st.2.2 (st.2.1 k)) st i) mu1 → zJ X M_X9_layFar (d + 3) 0 0 76 [.ref 66, .int (nI b), zu, .int (nI (k + 1)), .int (nI ((bwys (nbr p s.2 b) (st.2.1 k) (st.2.2 (st.2.1 k)) st i).1)), .int (nI (num (st.2.1 k))), .int (nI i), zu, zu] [] 86 (zEE (mu1) (nu)) (zlift (Q)) := by
  intro n
  induction n with
  | zero =>
    intro i mu1 hi
    have h5 := hp.2.2.2.2.2.1
    have h20 := hp.n20
    intro hF hR
    obtain rfl : i = 4 := by omega
    refine z_iload dX9_layFar_76 rfl ?_
    refine z_iconst (v := nI 4) dX9_layFar_78 rfl ?_
    refine zn_icmp_ge (tgt := 233) dX9_layFar_79 (by decide) (by omega) (by omega) (fun hc79 => ?_) (fun hc79 => by omega)
    exact kk mu1 hF hR
  | succ n ih =>
    intro i mu1 hi
    have h5 := hp.2.2.2.2.2.1
    have h20 := hp.n20
    intro hF hR
    have hIi := BI_wys vpl_lt (nbr_ok hp hb (cut := s.2)) hk hI i (by omega)
    have hex := bext_wys (nb := nbr p s.2 b) (pl := st.2.1 k) (rd := st.2.2 (st.2.1 k)) (st := st) i
    have hkk := hI.2.1 k hk
    have hpl : vpl p (st.2.1 k) := hkk.1
    have hpc := num_c hpl.1
    have hnl := num_lt hpl.1
    have ere : (bwys (nbr p s.2 b) (st.2.1 k) (st.2.2 (st.2.1 k)) st i).2.2 (st.2.1 k) = st.2.2 (st.2.1 k) := hex.2.2 _ hkk.2.1
    have hne : (bwys (nbr p s.2 b) (st.2.1 k) (st.2.2 (st.2.1 k)) st i).2.2 (st.2.1 k) ≠ 0 := by rw [ere]; exact hkk.2.1
    have hr1 := BI_r hI (st.2.1 k)
    have hle := BI_le hIi
    have hx3 := (hp.2.2.2.2.2.2.2 b hb).2
    have ew : bwys (nbr p s.2 b) (st.2.1 k) (st.2.2 (st.2.1 k)) st (i + 1) = bway (nbr p s.2 b) (st.2.1 k) (st.2.2 (st.2.1 k)) (bwys (nbr p s.2 b) (st.2.1 k) (st.2.2 (st.2.1 k)) st i) i := rfl
    have hM1 := PM_m hM (Sm_f hF)
    have hG1 := PG_e hG (hF 73 (by decide) (by decide) (by decide))
    have hS0 : S81 mu1 (u2 (u2 (u2 mu1 81 0 (nI (st.2.1 k % 20))) 81 1 (nI (st.2.1 k / 20 % 7))) 81 2 (nI (st.2.1 k / 140))) := S81_tr S81_u (S81_tr S81_u S81_u)
    refine z_iload dX9_layFar_76 rfl ?_
    refine z_iconst (v := nI 4) dX9_layFar_78 rfl ?_
    refine zn_icmp_ge (tgt := 233) dX9_layFar_79 (by decide) (by omega) (by omega) (fun hc79 => by omega) (fun hc79 => ?_)
    refine z_aload_n dX9_layFar_82 rfl ?_
    refine y_getR dX9_layFar_83 lf_X9_60 rfl rfl ?_
    refine z_iconst (v := nI 0) dX9_layFar_86 rfl ?_
    refine z_iload dX9_layFar_87 rfl ?_
    refine z_bipush (v := nI 49) dX9_layFar_89 rfl ?_
    refine zn_idiv dX9_layFar_91 (by omega) (by omega) (by omega) ?_
    rw [hpc.1]
    refine y_iast dX9_layFar_92 rfl (by decide) (by omega) ?_
    refine z_aload_n dX9_layFar_93 rfl ?_
    refine y_getR dX9_layFar_94 lf_X9_60 rfl rfl ?_
    refine z_iconst (v := nI 1) dX9_layFar_97 rfl ?_
    refine z_iload dX9_layFar_98 rfl ?_
    refine z_bipush (v := nI 7) dX9_layFar_100 rfl ?_
    refine zn_idiv dX9_layFar_102 (by omega) (by omega) (by omega) ?_
    refine z_bipush (v := nI 7) dX9_layFar_103 rfl ?_
    refine zn_irem dX9_layFar_105 (by omega) (by omega) (by omega) ?_
    rw [hpc.2.1]
    refine y_iast dX9_layFar_106 rfl (by decide) (by omega) ?_
    refine z_aload_n dX9_layFar_107 rfl ?_
    refine y_getR dX9_layFar_108 lf_X9_60 rfl rfl ?_
    refine z_iconst (v := nI 2) dX9_layFar_111 rfl ?_
    refine z_iload dX9_layFar_112 rfl ?_
    refine z_bipush (v := nI 7) dX9_layFar_114 rfl ?_
    refine zn_irem dX9_layFar_116 (by omega) (by omega) (by omega) ?_
    rw [hpc.2.2]
    refine y_iast dX9_layFar_117 rfl (by decide) (by omega) ?_
    refine z_aload_n dX9_layFar_118 rfl ?_
    refine z_iload dX9_layFar_119 rfl ?_
    refine z_aload_n dX9_layFar_121 rfl ?_
    refine y_getR dX9_layFar_122 lf_X9_26 rfl rfl ?_
    refine z_iload_n dX9_layFar_125 rfl ?_
    refine y_ialde dX9_layFar_126 rfl (by decide) (by omega) ((congrFun (hS0 70 (by decide)) b).trans (hM1.2.2.2.2.2 b hb).2) ?_
    refine z_iconst (v := nI 3) dX9_layFar_127 rfl ?_
    refine zn_icmp_ne (tgt := 135) dX9_layFar_128 (by decide) (by omega) (by omega) (fun hc128 => ?_) (fun hc128 => ?_)
    · have eX : b2i (pX p b == 3) = nI 0 := b2i_f (by simp [hc128])
      refine z_iconst (v := nI 0) dX9_layFar_135 rfl ?_
      rw [← eX]
      refine y_callV2 (M' := M_X9_goWay) dX9_layFar_136 lm_X9_140 cv_X9_goWay rfl (Nat.le_of_ble_eq_true rfl) (Nat.le_of_ble_eq_true rfl) rfl (m_spotGo hp (PM_S hM1 hS0) p73 (PG_S hG1 p73 hS0) hV hb (y := i) (by omega) hpl.1 hpl.2 (by rw [u2_k (by decide), u2_k (by decide), u2_s]) (by rw [u2_k (by decide), u2_s]) u2_s _) (fun r mu2 nu2 hq => ?_)
      obtain ⟨rfl, rfl, hS2, e0, e1, e2⟩ := hq
      have hSS : S81 mu1 mu2 := S81_tr (S81_tr S81_u (S81_tr S81_u S81_u)) hS2
      have hF2 := Sf_tr hF (Sf_S hSS)
      have hM2 := PM_m hM (Sm_f hF2)
      have hG2 := PG_e hG (hF2 73 (by decide) (by decide) (by decide))
      have hR2 := FR_S hR hSS
      have epo := pon_at hp (cut := s.2) (b := b) (y := i) (by omega) hpl.1 hpl.2
      have hn := nbc_lt hp (pdx_lt hp (pX p b)) hpl.2 (y := i) (by omega)
      have hgx := (gt_lt (w := pw p) (h := ph p) (c := st.2.1 k % 20) (y := i) (x := st.2.1 k / 20 % 7) (by omega)).1
      have hgz := (gt_lt (w := pw p) (h := ph p) (c := st.2.1 k % 20) (y := i) (x := st.2.1 k / 140) (by omega)).2
      refine z_aload_n dX9_layFar_139 rfl ?_
      refine y_callV0x (M' := M_X9_isThere) dX9_layFar_140 lm_X9_152 cv_X9_isThere rfl (Nat.le_of_ble_eq_true rfl) (Nat.le_of_ble_eq_true rfl) rfl (m_isThere e1 e2 hgx hgz _) ?_
      refine zb_if_eq (tgt := 168) dX9_layFar_143 (by decide) (fun hc143 => ?_) (fun hc143 => ?_)
      · have hst : nbr p s.2 b (st.2.1 k) i = none := by show pon p s.2 b (st.2.1 k) i = none; rw [epo]; rw [if_neg (by rw [hc143]; decide)]
        have e3 : bwys (nbr p s.2 b) (st.2.1 k) (st.2.2 (st.2.1 k)) st (i + 1) = bwys (nbr p s.2 b) (st.2.1 k) (st.2.2 (st.2.1 k)) st i := by rw [ew]; exact bway_n hst
        refine z_iconst (v := nI 0) dX9_layFar_168 rfl ?_
        refine z_istore7 dX9_layFar_169 rfl ?_
        refine z_iload dX9_layFar_171 rfl ?_
        refine zn_if_eq (tgt := 183) dX9_layFar_173 (by decide) (by omega) (fun hc173 => ?_) (fun hc173 => by omega)
        refine z_iload dX9_layFar_183 rfl ?_
        refine z_istore8 dX9_layFar_185 rfl ?_
        refine z_aload_n dX9_layFar_187 rfl ?_
        refine y_getR dX9_layFar_188 lf_X9_63 rfl rfl ?_
        refine z_iload dX9_layFar_191 rfl ?_
        refine y_ialde dX9_layFar_193 rfl (by decide) (num_lt hpl.1) (hR2.1 _ hpl.1) ?_
        refine z_bipush (v := -9) dX9_layFar_194 rfl ?_
        refine z_icmp_ne (tgt := 227) dX9_layFar_196 (by decide) (fun hc196 => ?_) (fun hc196 => by exact absurd ((o8_m9 (BI_r hIi _)).mp hc196) hne)
        refine zn_iinc6 dX9_layFar_227 rfl ?_
        refine z_goto (tgt := 76) dX9_layFar_230 (by decide) ?_
        have q := ih (i + 1) mu2 (by omega) hF2 (by rw [e3]; exact hR2)
        rw [e3] at q
        exact z_sub q ⟨Or.inr rfl, Or.inr rfl, Or.inl rfl, Or.inr rfl, Or.inr rfl, Or.inr rfl, Or.inr rfl, Or.inl rfl, Or.inl rfl, trivial⟩
      · refine z_aload_n dX9_layFar_146 rfl ?_
        refine z_aload_n dX9_layFar_147 rfl ?_
        refine y_getR dX9_layFar_148 lf_X9_35 rfl rfl ?_
        refine z_iload_n dX9_layFar_151 rfl ?_
        refine z_aload_n dX9_layFar_152 rfl ?_
        refine y_getR dX9_layFar_153 lf_X9_60 rfl rfl ?_
        refine z_iconst (v := nI 0) dX9_layFar_156 rfl ?_
        refine y_ialde dX9_layFar_157 rfl (by decide) (by omega) e0 ?_
        refine y_callV3x (M' := M_X9_canBe) dX9_layFar_158 lm_X9_155 cv_X9_canBe rfl (Nat.le_of_ble_eq_true rfl) (Nat.le_of_ble_eq_true rfl) rfl (m_canBe hp hM2 p73 hG2 hV hb hn _) ?_
        refine zb_if_eq (tgt := 168) dX9_layFar_161 (by decide) (fun hc161 => ?_) (fun hc161 => ?_)
        · have hst : nbr p s.2 b (st.2.1 k) i = none := by show pon p s.2 b (st.2.1 k) i = none; rw [epo]; rw [if_pos hc143, if_neg (by rw [hc161]; decide)]
          have e3 : bwys (nbr p s.2 b) (st.2.1 k) (st.2.2 (st.2.1 k)) st (i + 1) = bwys (nbr p s.2 b) (st.2.1 k) (st.2.2 (st.2.1 k)) st i := by rw [ew]; exact bway_n hst
          refine z_iconst (v := nI 0) dX9_layFar_168 rfl ?_
          refine z_istore7 dX9_layFar_169 rfl ?_
          refine z_iload dX9_layFar_171 rfl ?_
          refine zn_if_eq (tgt := 183) dX9_layFar_173 (by decide) (by omega) (fun hc173 => ?_) (fun hc173 => by omega)
          refine z_iload dX9_layFar_183 rfl ?_
          refine z_istore8 dX9_layFar_185 rfl ?_
          refine z_aload_n dX9_layFar_187 rfl ?_
          refine y_getR dX9_layFar_188 lf_X9_63 rfl rfl ?_
          refine z_iload dX9_layFar_191 rfl ?_
          refine y_ialde dX9_layFar_193 rfl (by decide) (num_lt hpl.1) (hR2.1 _ hpl.1) ?_
          refine z_bipush (v := -9) dX9_layFar_194 rfl ?_
          refine z_icmp_ne (tgt := 227) dX9_layFar_196 (by decide) (fun hc196 => ?_) (fun hc196 => by exact absurd ((o8_m9 (BI_r hIi _)).mp hc196) hne)
          refine zn_iinc6 dX9_layFar_227 rfl ?_
          refine z_goto (tgt := 76) dX9_layFar_230 (by decide) ?_
          have q := ih (i + 1) mu2 (by omega) hF2 (by rw [e3]; exact hR2)
          rw [e3] at q
          exact z_sub q ⟨Or.inr rfl, Or.inr rfl, Or.inl rfl, Or.inr rfl, Or.inr rfl, Or.inr rfl, Or.inr rfl, Or.inl rfl, Or.inl rfl, trivial⟩
        · have hst : nbr p s.2 b (st.2.1 k) i = some (nbc (pw p) (ph p) (pdx p (pX p b)) (st.2.1 k % 20) i + 20 * (gtx (pw p) (ph p) (st.2.1 k % 20) i (st.2.1 k / 20 % 7) - 1) + 140 * (gtz (pw p) (ph p) (st.2.1 k % 20) i (st.2.1 k / 140) - 1)) := by show pon p s.2 b (st.2.1 k) i = _; rw [epo, hc143, hc161]; rfl
          have hq9 := nbr_ok hp hb _ _ _ hpl (show i < 4 by omega) hst
          simp only [Bool.and_eq_true, decide_eq_true_eq] at hc143
          have h3 := sp3_of (by omega) hc143.1.1 hc143.1.2 hc143.2.1 e0 e1 e2
          generalize (nbc (pw p) (ph p) (pdx p (pX p b)) (st.2.1 k % 20) i + 20 * (gtx (pw p) (ph p) (st.2.1 k % 20) i (st.2.1 k / 20 % 7) - 1) + 140 * (gtz (pw p) (ph p) (st.2.1 k % 20) i (st.2.1 k / 140) - 1)) = q at hst hq9 h3
          have hrq := BI_r hIi q
          refine z_iconst (v := nI 1) dX9_layFar_164 rfl ?_
          refine z_goto (tgt := 169) dX9_layFar_165 (by decide) ?_
          refine z_istore7 dX9_layFar_169 rfl ?_
          refine z_iload dX9_layFar_171 rfl ?_
          refine zn_if_eq (tgt := 183) dX9_layFar_173 (by decide) (by omega) (fun hc173 => by omega) (fun hc173 => ?_)
          refine z_aload_n dX9_layFar_176 rfl ?_
          refine y_callV0x (M' := M_X9_spotNumber) dX9_layFar_177 lm_X9_212 cv_X9_spotNumber rfl (Nat.le_of_ble_eq_true rfl) (Nat.le_of_ble_eq_true rfl) rfl (m_spotNumber h3.1 h3.2.1 h3.2.2 _) ?_
          rw [show (q % 20 * 7 + q / 20 % 7) * 7 + q / 140 = num q from rfl]
          have hnq := num_lt hq9.1
          refine z_goto (tgt := 185) dX9_layFar_180 (by decide) ?_
          refine z_istore8 dX9_layFar_185 rfl ?_
          refine z_aload_n dX9_layFar_187 rfl ?_
          refine y_getR dX9_layFar_188 lf_X9_63 rfl rfl ?_
          refine z_iload dX9_layFar_191 rfl ?_
          refine y_ialde dX9_layFar_193 rfl (by decide) hnq (hR2.1 _ hq9.1) ?_
          refine z_bipush (v := -9) dX9_layFar_194 rfl ?_
          refine z_icmp_ne (tgt := 227) dX9_layFar_196 (by decide) (fun hc196 => ?_) (fun hc196 => ?_)
          · have h0 : ¬ (bwys (nbr p s.2 b) (st.2.1 k) (st.2.2 (st.2.1 k)) st i).2.2 q = 0 := fun e => hc196 (by rw [e]; rfl)
            have e3 : bwys (nbr p s.2 b) (st.2.1 k) (st.2.2 (st.2.1 k)) st (i + 1) = bwys (nbr p s.2 b) (st.2.1 k) (st.2.2 (st.2.1 k)) st i := by rw [ew]; exact bway_o hst h0
            refine zn_iinc6 dX9_layFar_227 rfl ?_
            refine z_goto (tgt := 76) dX9_layFar_230 (by decide) ?_
            have q := ih (i + 1) mu2 (by omega) hF2 (by rw [e3]; exact hR2)
            rw [e3] at q
            exact z_sub q ⟨Or.inr rfl, Or.inr rfl, Or.inl rfl, Or.inr rfl, Or.inr rfl, Or.inr rfl, Or.inr rfl, Or.inl rfl, Or.inl rfl, trivial⟩
          · have h0 : (bwys (nbr p s.2 b) (st.2.1 k) (st.2.2 (st.2.1 k)) st i).2.2 q = 0 := (o8_m9 hrq).mp hc196
            have e3 : bwys (nbr p s.2 b) (st.2.1 k) (st.2.2 (st.2.1 k)) st (i + 1) = bput (bwys (nbr p s.2 b) (st.2.1 k) (st.2.2 (st.2.1 k)) st i) q (st.2.2 (st.2.1 k) + 1) := by rw [ew]; exact bway_p hst h0
            have hct := BI_lt hIi vpl_lt hq9.1 h0
            have es : st.2.2 (st.2.1 k) - 1 + 1 = st.2.2 (st.2.1 k) := by have := hkk.2.1; omega
            refine z_aload_n dX9_layFar_199 rfl ?_
            refine y_getR dX9_layFar_200 lf_X9_63 rfl rfl ?_
            refine z_iload dX9_layFar_203 rfl ?_
            refine z_aload_n dX9_layFar_205 rfl ?_
            refine y_getR dX9_layFar_206 lf_X9_63 rfl rfl ?_
            refine z_iload dX9_layFar_209 rfl ?_
            refine y_ialde dX9_layFar_211 rfl (by decide) (num_lt hpl.1) ((hR2.1 _ hpl.1).trans ((congrArg o8 ere).trans (o8_s hkk.2.1))) ?_
            refine z_iconst (v := nI 1) dX9_layFar_212 rfl ?_
            refine zn_iadd dX9_layFar_213 ?_
            rw [es]
            refine y_iast dX9_layFar_214 rfl (by decide) hnq ?_
            refine z_aload_n dX9_layFar_215 rfl ?_
            refine y_getR dX9_layFar_216 lf_X9_66 rfl rfl ?_
            refine z_iload dX9_layFar_219 rfl ?_
            refine z_iload dX9_layFar_221 rfl ?_
            refine y_iast dX9_layFar_223 rfl (by decide) hct ?_
            refine zn_iinc4 dX9_layFar_224 rfl ?_
            refine zn_iinc6 dX9_layFar_227 rfl ?_
            refine z_goto (tgt := 76) dX9_layFar_230 (by decide) ?_
            have hp3 := FR_put (v := st.2.2 (st.2.1 k)) hR2 hq9.1
            have q9 := ih (i + 1) _ (by omega) (Sf_tr hF2 (Sf_tr Sf_u2 Sf_u3)) (by rw [e3]; exact hp3)
            rw [e3] at q9
            exact z_sub q9 ⟨Or.inr rfl, Or.inr rfl, Or.inl rfl, Or.inr rfl, Or.inr rfl, Or.inr rfl, Or.inr rfl, Or.inl rfl, Or.inl rfl, trivial⟩
    · have eX : b2i (pX p b == 3) = nI 1 := b2i_t (by simp [hc128])
      refine z_iconst (v := nI 1) dX9_layFar_131 rfl ?_
      refine z_goto (tgt := 136) dX9_layFar_132 (by decide) ?_
      rw [← eX]
      refine y_callV2 (M' := M_X9_goWay) dX9_layFar_136 lm_X9_140 cv_X9_goWay rfl (Nat.le_of_ble_eq_true rfl) (Nat.le_of_ble_eq_true rfl) rfl (m_spotGo hp (PM_S hM1 hS0) p73 (PG_S hG1 p73 hS0) hV hb (y := i) (by omega) hpl.1 hpl.2 (by rw [u2_k (by decide), u2_k (by decide), u2_s]) (by rw [u2_k (by decide), u2_s]) u2_s _) (fun r mu2 nu2 hq => ?_)
      obtain ⟨rfl, rfl, hS2, e0, e1, e2⟩ := hq
      have hSS : S81 mu1 mu2 := S81_tr (S81_tr S81_u (S81_tr S81_u S81_u)) hS2
      have hF2 := Sf_tr hF (Sf_S hSS)
      have hM2 := PM_m hM (Sm_f hF2)
      have hG2 := PG_e hG (hF2 73 (by decide) (by decide) (by decide))
      have hR2 := FR_S hR hSS
      have epo := pon_at hp (cut := s.2) (b := b) (y := i) (by omega) hpl.1 hpl.2
      have hn := nbc_lt hp (pdx_lt hp (pX p b)) hpl.2 (y := i) (by omega)
      have hgx := (gt_lt (w := pw p) (h := ph p) (c := st.2.1 k % 20) (y := i) (x := st.2.1 k / 20 % 7) (by omega)).1
      have hgz := (gt_lt (w := pw p) (h := ph p) (c := st.2.1 k % 20) (y := i) (x := st.2.1 k / 140) (by omega)).2
      refine z_aload_n dX9_layFar_139 rfl ?_
      refine y_callV0x (M' := M_X9_isThere) dX9_layFar_140 lm_X9_152 cv_X9_isThere rfl (Nat.le_of_ble_eq_true rfl) (Nat.le_of_ble_eq_true rfl) rfl (m_isThere e1 e2 hgx hgz _) ?_
      refine zb_if_eq (tgt := 168) dX9_layFar_143 (by decide) (fun hc143 => ?_) (fun hc143 => ?_)
      · have hst : nbr p s.2 b (st.2.1 k) i = none := by show pon p s.2 b (st.2.1 k) i = none; rw [epo]; rw [if_neg (by rw [hc143]; decide)]
        have e3 : bwys (nbr p s.2 b) (st.2.1 k) (st.2.2 (st.2.1 k)) st (i + 1) = bwys (nbr p s.2 b) (st.2.1 k) (st.2.2 (st.2.1 k)) st i := by rw [ew]; exact bway_n hst
        refine z_iconst (v := nI 0) dX9_layFar_168 rfl ?_
        refine z_istore7 dX9_layFar_169 rfl ?_
        refine z_iload dX9_layFar_171 rfl ?_
        refine zn_if_eq (tgt := 183) dX9_layFar_173 (by decide) (by omega) (fun hc173 => ?_) (fun hc173 => by omega)
        refine z_iload dX9_layFar_183 rfl ?_
        refine z_istore8 dX9_layFar_185 rfl ?_
        refine z_aload_n dX9_layFar_187 rfl ?_
        refine y_getR dX9_layFar_188 lf_X9_63 rfl rfl ?_
        refine z_iload dX9_layFar_191 rfl ?_
        refine y_ialde dX9_layFar_193 rfl (by decide) (num_lt hpl.1) (hR2.1 _ hpl.1) ?_
        refine z_bipush (v := -9) dX9_layFar_194 rfl ?_
        refine z_icmp_ne (tgt := 227) dX9_layFar_196 (by decide) (fun hc196 => ?_) (fun hc196 => by exact absurd ((o8_m9 (BI_r hIi _)).mp hc196) hne)
        refine zn_iinc6 dX9_layFar_227 rfl ?_
        refine z_goto (tgt := 76) dX9_layFar_230 (by decide) ?_
        have q := ih (i + 1) mu2 (by omega) hF2 (by rw [e3]; exact hR2)
        rw [e3] at q
        exact z_sub q ⟨Or.inr rfl, Or.inr rfl, Or.inl rfl, Or.inr rfl, Or.inr rfl, Or.inr rfl, Or.inr rfl, Or.inl rfl, Or.inl rfl, trivial⟩
      · refine z_aload_n dX9_layFar_146 rfl ?_
        refine z_aload_n dX9_layFar_147 rfl ?_
        refine y_getR dX9_layFar_148 lf_X9_35 rfl rfl ?_
        refine z_iload_n dX9_layFar_151 rfl ?_
        refine z_aload_n dX9_layFar_152 rfl ?_
        refine y_getR dX9_layFar_153 lf_X9_60 rfl rfl ?_
        refine z_iconst (v := nI 0) dX9_layFar_156 rfl ?_
        refine y_ialde dX9_layFar_157 rfl (by decide) (by omega) e0 ?_
        refine y_callV3x (M' := M_X9_canBe) dX9_layFar_158 lm_X9_155 cv_X9_canBe rfl (Nat.le_of_ble_eq_true rfl) (Nat.le_of_ble_eq_true rfl) rfl (m_canBe hp hM2 p73 hG2 hV hb hn _) ?_
        refine zb_if_eq (tgt := 168) dX9_layFar_161 (by decide) (fun hc161 => ?_) (fun hc161 => ?_)
        · have hst : nbr p s.2 b (st.2.1 k) i = none := by show pon p s.2 b (st.2.1 k) i = none; rw [epo]; rw [if_pos hc143, if_neg (by rw [hc161]; decide)]
          have e3 : bwys (nbr p s.2 b) (st.2.1 k) (st.2.2 (st.2.1 k)) st (i + 1) = bwys (nbr p s.2 b) (st.2.1 k) (st.2.2 (st.2.1 k)) st i := by rw [ew]; exact bway_n hst
          refine z_iconst (v := nI 0) dX9_layFar_168 rfl ?_
          refine z_istore7 dX9_layFar_169 rfl ?_
          refine z_iload dX9_layFar_171 rfl ?_
          refine zn_if_eq (tgt := 183) dX9_layFar_173 (by decide) (by omega) (fun hc173 => ?_) (fun hc173 => by omega)
          refine z_iload dX9_layFar_183 rfl ?_
          refine z_istore8 dX9_layFar_185 rfl ?_
          refine z_aload_n dX9_layFar_187 rfl ?_
          refine y_getR dX9_layFar_188 lf_X9_63 rfl rfl ?_
          refine z_iload dX9_layFar_191 rfl ?_
          refine y_ialde dX9_layFar_193 rfl (by decide) (num_lt hpl.1) (hR2.1 _ hpl.1) ?_
          refine z_bipush (v := -9) dX9_layFar_194 rfl ?_
          refine z_icmp_ne (tgt := 227) dX9_layFar_196 (by decide) (fun hc196 => ?_) (fun hc196 => by exact absurd ((o8_m9 (BI_r hIi _)).mp hc196) hne)
          refine zn_iinc6 dX9_layFar_227 rfl ?_
          refine z_goto (tgt := 76) dX9_layFar_230 (by decide) ?_
          have q := ih (i + 1) mu2 (by omega) hF2 (by rw [e3]; exact hR2)
          rw [e3] at q
          exact z_sub q ⟨Or.inr rfl, Or.inr rfl, Or.inl rfl, Or.inr rfl, Or.inr rfl, Or.inr rfl, Or.inr rfl, Or.inl rfl, Or.inl rfl, trivial⟩
        · have hst : nbr p s.2 b (st.2.1 k) i = some (nbc (pw p) (ph p) (pdx p (pX p b)) (st.2.1 k % 20) i + 20 * (gtx (pw p) (ph p) (st.2.1 k % 20) i (st.2.1 k / 20 % 7) - 1) + 140 * (gtz (pw p) (ph p) (st.2.1 k % 20) i (st.2.1 k / 140) - 1)) := by show pon p s.2 b (st.2.1 k) i = _; rw [epo, hc143, hc161]; rfl
          have hq9 := nbr_ok hp hb _ _ _ hpl (show i < 4 by omega) hst
          simp only [Bool.and_eq_true, decide_eq_true_eq] at hc143
          have h3 := sp3_of (by omega) hc143.1.1 hc143.1.2 hc143.2.1 e0 e1 e2
          generalize (nbc (pw p) (ph p) (pdx p (pX p b)) (st.2.1 k % 20) i + 20 * (gtx (pw p) (ph p) (st.2.1 k % 20) i (st.2.1 k / 20 % 7) - 1) + 140 * (gtz (pw p) (ph p) (st.2.1 k % 20) i (st.2.1 k / 140) - 1)) = q at hst hq9 h3
          have hrq := BI_r hIi q
          refine z_iconst (v := nI 1) dX9_layFar_164 rfl ?_
          refine z_goto (tgt := 169) dX9_layFar_165 (by decide) ?_
          refine z_istore7 dX9_layFar_169 rfl ?_
          refine z_iload dX9_layFar_171 rfl ?_
          refine zn_if_eq (tgt := 183) dX9_layFar_173 (by decide) (by omega) (fun hc173 => by omega) (fun hc173 => ?_)
          refine z_aload_n dX9_layFar_176 rfl ?_
          refine y_callV0x (M' := M_X9_spotNumber) dX9_layFar_177 lm_X9_212 cv_X9_spotNumber rfl (Nat.le_of_ble_eq_true rfl) (Nat.le_of_ble_eq_true rfl) rfl (m_spotNumber h3.1 h3.2.1 h3.2.2 _) ?_
          rw [show (q % 20 * 7 + q / 20 % 7) * 7 + q / 140 = num q from rfl]
          have hnq := num_lt hq9.1
          refine z_goto (tgt := 185) dX9_layFar_180 (by decide) ?_
          refine z_istore8 dX9_layFar_185 rfl ?_
          refine z_aload_n dX9_layFar_187 rfl ?_
          refine y_getR dX9_layFar_188 lf_X9_63 rfl rfl ?_
          refine z_iload dX9_layFar_191 rfl ?_
          refine y_ialde dX9_layFar_193 rfl (by decide) hnq (hR2.1 _ hq9.1) ?_
          refine z_bipush (v := -9) dX9_layFar_194 rfl ?_
          refine z_icmp_ne (tgt := 227) dX9_layFar_196 (by decide) (fun hc196 => ?_) (fun hc196 => ?_)
          · have h0 : ¬ (bwys (nbr p s.2 b) (st.2.1 k) (st.2.2 (st.2.1 k)) st i).2.2 q = 0 := fun e => hc196 (by rw [e]; rfl)
            have e3 : bwys (nbr p s.2 b) (st.2.1 k) (st.2.2 (st.2.1 k)) st (i + 1) = bwys (nbr p s.2 b) (st.2.1 k) (st.2.2 (st.2.1 k)) st i := by rw [ew]; exact bway_o hst h0
            refine zn_iinc6 dX9_layFar_227 rfl ?_
            refine z_goto (tgt := 76) dX9_layFar_230 (by decide) ?_
            have q := ih (i + 1) mu2 (by omega) hF2 (by rw [e3]; exact hR2)
            rw [e3] at q
            exact z_sub q ⟨Or.inr rfl, Or.inr rfl, Or.inl rfl, Or.inr rfl, Or.inr rfl, Or.inr rfl, Or.inr rfl, Or.inl rfl, Or.inl rfl, trivial⟩
          · have h0 : (bwys (nbr p s.2 b) (st.2.1 k) (st.2.2 (st.2.1 k)) st i).2.2 q = 0 := (o8_m9 hrq).mp hc196
            have e3 : bwys (nbr p s.2 b) (st.2.1 k) (st.2.2 (st.2.1 k)) st (i + 1) = bput (bwys (nbr p s.2 b) (st.2.1 k) (st.2.2 (st.2.1 k)) st i) q (st.2.2 (st.2.1 k) + 1) := by rw [ew]; exact bway_p hst h0
            have hct := BI_lt hIi vpl_lt hq9.1 h0
            have es : st.2.2 (st.2.1 k) - 1 + 1 = st.2.2 (st.2.1 k) := by have := hkk.2.1; omega
            refine z_aload_n dX9_layFar_199 rfl ?_
            refine y_getR dX9_layFar_200 lf_X9_63 rfl rfl ?_
            refine z_iload dX9_layFar_203 rfl ?_
            refine z_aload_n dX9_layFar_205 rfl ?_
            refine y_getR dX9_layFar_206 lf_X9_63 rfl rfl ?_
            refine z_iload dX9_layFar_209 rfl ?_
            refine y_ialde dX9_layFar_211 rfl (by decide) (num_lt hpl.1) ((hR2.1 _ hpl.1).trans ((congrArg o8 ere).trans (o8_s hkk.2.1))) ?_
            refine z_iconst (v := nI 1) dX9_layFar_212 rfl ?_
            refine zn_iadd dX9_layFar_213 ?_
            rw [es]
            refine y_iast dX9_layFar_214 rfl (by decide) hnq ?_
            refine z_aload_n dX9_layFar_215 rfl ?_
            refine y_getR dX9_layFar_216 lf_X9_66 rfl rfl ?_
            refine z_iload dX9_layFar_219 rfl ?_
            refine z_iload dX9_layFar_221 rfl ?_
            refine y_iast dX9_layFar_223 rfl (by decide) hct ?_
            refine zn_iinc4 dX9_layFar_224 rfl ?_
            refine zn_iinc6 dX9_layFar_227 rfl ?_
            refine z_goto (tgt := 76) dX9_layFar_230 (by decide) ?_
            have hp3 := FR_put (v := st.2.2 (st.2.1 k)) hR2 hq9.1
            have q9 := ih (i + 1) _ (by omega) (Sf_tr hF2 (Sf_tr Sf_u2 Sf_u3)) (by rw [e3]; exact hp3)
            rw [e3] at q9
            exact z_sub q9 ⟨Or.inr rfl, Or.inr rfl, Or.inl rfl, Or.inr rfl, Or.inr rfl, Or.inr rfl, Or.inr rfl, Or.inl rfl, Or.inl rfl, trivial⟩
set_option maxRecDepth 4000 in
theorem m_far_l {X : zX} {mu : zmu} {nu : znu} {p : PT} {s : SC} (hp : PV p) (hM : PM p mu) (hG : PG p s 73 mu) (hV : SVs p s) {b : Nat} (hb : b < pb p) (d : Nat) : ∀ n i mu1, i + n = 980 → (∀ j, j < i → j < (BB (nbr p s.2 b) (s.1 b) (j)).1) → Sf mu mu1 → FR (BB (nbr p s.2 b) (s.1 b) (i)) mu1 → zJ X M_X9_layFar (d + 3) 0 0 56 [.ref 66, .int (nI b), zu, .int (nI (i)), .int (nI (BB (nbr p s.2 b) (s.1 b) (i)).1), zu, zu, zu, zu] [] 86 (zEE (mu1) (nu)) (zlift (fun r mu9 nu9 => r = none ∧ nu9 = nu ∧ Sf mu mu9 ∧ FR (BB (nbr p s.2 b) (s.1 b) (980)) mu9 ∧ ∀ q, (BB (nbr p s.2 b) (s.1 b) (980)).2.2 q ≤ 980)) := by
  intro n
  induction n with
  | zero =>
    intro i mu1 hi
    intro hall hF hR
    obtain rfl : i = 980 := by omega
    have hI := BB_I (hV.1 b hb) vpl_lt (nbr_ok hp hb (cut := s.2)) 980 hall
    have hle := BI_le hI
    refine z_iload_n dX9_layFar_56 rfl ?_
    refine z_iload dX9_layFar_57 rfl ?_
    refine zn_icmp_ge (tgt := 236) dX9_layFar_59 (by decide) (by omega) (by omega) (fun hc59 => ?_) (fun hc59 => by exact absurd hc59 (by omega))
    exact y_return dX9_layFar_236 rfl ⟨rfl, rfl, hF, hR, fun q => BI_r hI q⟩
  | succ n ih =>
    intro i mu1 hi
    intro hall hF hR
    have hI := BB_I (hV.1 b hb) vpl_lt (nbr_ok hp hb (cut := s.2)) i hall
    have hle := BI_le hI
    refine z_iload_n dX9_layFar_56 rfl ?_
    refine z_iload dX9_layFar_57 rfl ?_
    refine zn_icmp_ge (tgt := 236) dX9_layFar_59 (by decide) (by omega) (by omega) (fun hc59 => ?_) (fun hc59 => ?_)
    · have est := BB_stay (nb := (nbr p s.2 b)) (s := s.1 b) (k := i) hc59 (980 - i)
      rw [show i + (980 - i) = 980 by omega] at est
      exact y_return dX9_layFar_236 rfl ⟨rfl, rfl, hF, by rw [est]; exact hR, by rw [est]; exact fun q => BI_r hI q⟩
    · have hI2 : BI (vpl p) ((BB (nbr p s.2 b) (s.1 b) (i)).2.2 ((BB (nbr p s.2 b) (s.1 b) (i)).2.1 i) + 1) (BB (nbr p s.2 b) (s.1 b) (i)) := by
        refine BI_mono hI ?_
        unfold bmx
        split
        · omega
        · have := hI.2.2.2.2 (i - 1) i (by omega) hc59; omega
      have eb : BB (nbr p s.2 b) (s.1 b) (i + 1) = bwys (nbr p s.2 b) ((BB (nbr p s.2 b) (s.1 b) (i)).2.1 i) ((BB (nbr p s.2 b) (s.1 b) (i)).2.2 ((BB (nbr p s.2 b) (s.1 b) (i)).2.1 i)) (BB (nbr p s.2 b) (s.1 b) (i)) 4 := by show bnode _ _ _ = _; unfold bnode; rw [if_pos hc59]
      refine z_aload_n dX9_layFar_62 rfl ?_
      refine y_getR dX9_layFar_63 lf_X9_66 rfl rfl ?_
      refine z_iload_n dX9_layFar_66 rfl ?_
      refine y_ialde dX9_layFar_67 rfl (by decide) (by omega) (hR.2 i hc59) ?_
      refine z_istore5 dX9_layFar_68 rfl ?_
      refine zn_iinc3 dX9_layFar_70 rfl ?_
      refine z_iconst (v := nI 0) dX9_layFar_73 rfl ?_
      refine z_istore6 dX9_layFar_74 rfl ?_
      refine z_sub (m_far_in hp hM hG hV hb hI2 hc59 d (fun mu9 hF9 hR9 => ?_) 4 0 mu1 (by omega) hF hR) ⟨Or.inr rfl, Or.inr rfl, Or.inl rfl, Or.inr rfl, Or.inr rfl, Or.inr rfl, Or.inr rfl, Or.inl rfl, Or.inl rfl, trivial⟩
      rw [← eb] at hR9 ⊢
      refine z_goto (tgt := 56) dX9_layFar_233 (by decide) ?_
      exact z_sub (ih (i + 1) mu9 (by omega) (fun j hj => (by rcases Nat.lt_or_eq_of_le (Nat.le_of_lt_succ hj) with h | h; exact hall j h; rw [h]; exact hc59)) hF9 hR9) ⟨Or.inr rfl, Or.inr rfl, Or.inr rfl, Or.inr rfl, Or.inr rfl, Or.inl rfl, Or.inl rfl, Or.inl rfl, Or.inl rfl, trivial⟩
theorem FR_0 {nb : Nat → Nat → Option Nat} {q : Nat} {mu mu1 : zmu} (hq : q < 980) (h : ∀ x, x < 980 → mu 82 x = -9) (e : S81 mu mu1) : FR (BB nb q 0) (u2 (u2 mu1 82 (num q) (nI 0)) 83 0 (nI (num q))) := by
  refine ⟨fun x hx => ?_, fun j hj => ?_⟩
  · show _ = o8 (if x = q then 1 else 0)
    rw [u2_a (by decide)]
    by_cases g : x = q
    · rw [g, u2_s, if_pos rfl]; rfl
    · rw [u2_k (fun e2 => g (num_inj hx hq e2)), if_neg g, e 82 (by decide), h _ (num_lt hx)]; rfl
  · have hj : j < 1 := hj
    obtain rfl : j = 0 := by omega
    rw [u2_s]; rfl
set_option maxRecDepth 4000 in
theorem m_far_0 {X : zX} {mu : zmu} {nu : znu} (d : Nat) {b : Nat} {Q : zq} (kk : zJ X M_X9_layFar d 0 0 23 [.ref 66, .int (nI b), .int (nI 980), zu, zu, zu, zu, zu, zu] [] 86 (zEE (uR mu 82 (fil (fun _ => -9) (mu 82) 980)) (nu)) (zlift (Q))) : ∀ n i , i + n = 980 → zJ X M_X9_layFar d 0 0 2 [.ref 66, .int (nI b), .int (nI i), zu, zu, zu, zu, zu, zu] [] 86 (zEE (uR mu 82 (fil (fun _ => -9) (mu 82) i)) (nu)) (zlift (Q)) := by
  intro n
  induction n with
  | zero =>
    intro i  hi
    obtain rfl : i = 980 := by omega
    refine z_iload_n dX9_layFar_2 rfl ?_
    refine z_sipush (v := nI 980) dX9_layFar_3 rfl ?_
    refine zn_icmp_ge (tgt := 23) dX9_layFar_6 (by decide) (by omega) (by omega) (fun hc6 => ?_) (fun hc6 => by omega)
    exact kk
  | succ n ih =>
    intro i  hi
    refine z_iload_n dX9_layFar_2 rfl ?_
    refine z_sipush (v := nI 980) dX9_layFar_3 rfl ?_
    refine zn_icmp_ge (tgt := 23) dX9_layFar_6 (by decide) (by omega) (by omega) (fun hc6 => by omega) (fun hc6 => ?_)
    refine z_aload_n dX9_layFar_9 rfl ?_
    refine y_getR dX9_layFar_10 lf_X9_63 rfl rfl ?_
    refine z_iload_n dX9_layFar_13 rfl ?_
    refine z_bipush (v := -9) dX9_layFar_14 rfl ?_
    refine y_iast dX9_layFar_16 rfl (by decide) (by omega) ?_
    rw [fil_s (g := fun _ => -9)]
    refine zn_iinc2 dX9_layFar_17 rfl ?_
    refine z_goto (tgt := 2) dX9_layFar_20 (by decide) ?_
    exact ih (i + 1) (by omega)
set_option maxRecDepth 4000 in
theorem m_layFar {X : zX} {mu : zmu} {nu : znu} {p : PT} {s : SC} (hp : PV p) (hM : PM p mu) (hG : PG p s 73 mu) (hV : SVs p s) {b : Nat} (hb : b < pb p) (d : Nat) : zJ X M_X9_layFar (d + 3) 0 0 0 [.ref 66, .int (nI b), zu, zu, zu, zu, zu, zu, zu] [] 86 (zEE (mu) (nu)) (zlift (fun r mu9 nu9 => r = none ∧ nu9 = nu ∧ Sf mu mu9 ∧ FR (BB (nbr p s.2 b) (s.1 b) (980)) mu9 ∧ ∀ q, (BB (nbr p s.2 b) (s.1 b) (980)).2.2 q ≤ 980)) := by
  have hPb := hV.1 b hb
  have h5 := hp.2.2.2.2.2.1
  refine z_iconst (v := nI 0) dX9_layFar_0 rfl ?_
  refine z_istore2 dX9_layFar_1 rfl ?_
  have k := m_far_0 (X := X) (mu := mu) (nu := nu) (d + 3) (b := b) (Q := fun r mu9 nu9 => r = none ∧ nu9 = nu ∧ Sf mu mu9 ∧ FR (BB (nbr p s.2 b) (s.1 b) (980)) mu9 ∧ ∀ q, (BB (nbr p s.2 b) (s.1 b) (980)).2.2 q ≤ 980) ?_ 980 0 (by omega)
  · rw [fil_0] at k; exact k
  · have hG0 : PG p s 73 (uR mu 82 (fil (fun _ => -9) (mu 82) 980)) := PG_e hG (uR_a (by decide))
    have h9 : ∀ x, x < 980 → (uR mu 82 (fil (fun _ => -9) (mu 82) 980)) 82 x = -9 := fun x hx => by rw [uR_s, fil_lt hx]
    refine z_aload_n dX9_layFar_23 rfl ?_
    refine z_aload_n dX9_layFar_24 rfl ?_
    refine y_getR dX9_layFar_25 lf_X9_35 rfl rfl ?_
    refine z_iload_n dX9_layFar_28 rfl ?_
    refine y_callV2 (M' := M_X9_stand) dX9_layFar_29 lm_X9_148 cv_X9_stand rfl (Nat.le_of_ble_eq_true rfl) (Nat.le_of_ble_eq_true rfl) rfl (m_stand hp p73 hG0 hb _) (fun r mu1 nu1 hq => ?_)
    obtain ⟨rfl, rfl, hS, e0, e1, e2⟩ := hq
    refine z_aload_n dX9_layFar_32 rfl ?_
    refine y_callV0x (M' := M_X9_spotNumber) dX9_layFar_33 lm_X9_212 cv_X9_spotNumber rfl (Nat.le_of_ble_eq_true rfl) (Nat.le_of_ble_eq_true rfl) rfl (m_spotNumber e0 e1 e2 _) ?_
    rw [show (s.1 b % 20 * 7 + s.1 b / 20 % 7) * 7 + s.1 b / 140 = num (s.1 b) from rfl]
    have hnl := num_lt hPb.1
    refine z_istore2 dX9_layFar_36 rfl ?_
    refine z_iconst (v := nI 0) dX9_layFar_37 rfl ?_
    refine z_istore3 dX9_layFar_38 rfl ?_
    refine z_iconst (v := nI 1) dX9_layFar_39 rfl ?_
    refine z_istore4 dX9_layFar_40 rfl ?_
    refine z_aload_n dX9_layFar_42 rfl ?_
    refine y_getR dX9_layFar_43 lf_X9_63 rfl rfl ?_
    refine z_iload_n dX9_layFar_46 rfl ?_
    refine z_iconst (v := nI 0) dX9_layFar_47 rfl ?_
    refine y_iast dX9_layFar_48 rfl (by decide) hnl ?_
    refine z_aload_n dX9_layFar_49 rfl ?_
    refine y_getR dX9_layFar_50 lf_X9_66 rfl rfl ?_
    refine z_iconst (v := nI 0) dX9_layFar_53 rfl ?_
    refine z_iload_n dX9_layFar_54 rfl ?_
    refine y_iast dX9_layFar_55 rfl (by decide) (by omega) ?_
    exact z_sub (m_far_l hp hM hG hV hb d 980 0 _ (by omega) (fun j hj => absurd hj (Nat.not_lt_zero _)) (Sf_tr Sf_R (Sf_tr (Sf_S hS) (Sf_tr Sf_u2 Sf_u3))) (FR_0 hPb.1 h9 hS)) ⟨Or.inr rfl, Or.inr rfl, Or.inl rfl, Or.inr rfl, Or.inr rfl, Or.inl rfl, Or.inl rfl, Or.inl rfl, Or.inl rfl, trivial⟩
