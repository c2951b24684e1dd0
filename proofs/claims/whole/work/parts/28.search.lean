def bsM (st : BS) (mu : zmu) : zmu := uR (uR (u2 mu 46 2 (nI st.1)) 48 (fun j => if j < st.1 then nI (st.2.1 j) else mu 48 j)) 47 (fun q => if q < 980 then nI (st.2.2 q) else mu 47 q)
theorem bsM_ct {st : BS} {mu : zmu} : bsM st mu 46 2 = nI st.1 := by unfold bsM; rw [uR_a (by decide), uR_a (by decide), u2_s]
theorem bsM_f {st : BS} {mu : zmu} {j : Nat} (h : j < st.1) : bsM st mu 48 j = nI (st.2.1 j) := by unfold bsM; rw [uR_a (by decide), uR_s]; simp [h]
theorem bsM_r {st : BS} {mu : zmu} {q : Nat} (h : q < 980) : bsM st mu 47 q = nI (st.2.2 q) := by unfold bsM; rw [uR_s]; simp [h]
theorem bsM_o {st : BS} {mu : zmu} {a : Nat} (h1 : a ≠ 46) (h2 : a ≠ 47) (h3 : a ≠ 48) : bsM st mu a = mu a := by unfold bsM; rw [uR_a h2, uR_a h3, u2_rowa h1]
theorem bsM_put {st : BS} {mu : zmu} {q v : Nat} (hq : q < 980) : u2 (u2 (u2 (bsM st mu) 48 st.1 (nI q)) 46 2 (nI (st.1 + 1))) 47 q (nI v) = bsM (bput st q v) mu := by
  funext a j
  unfold bsM bput u2 uR
  by_cases h7 : a = 47
  · subst h7
    simp only [show ¬ (47 : Nat) = 46 by decide, show ¬ (47 : Nat) = 48 by decide, if_true, if_false]
    by_cases hj : j = q
    · subst hj; simp [hq]
    · simp [hj]
  · by_cases h8 : a = 48
    · subst h8
      simp only [show ¬ (48 : Nat) = 46 by decide, show ¬ (48 : Nat) = 47 by decide, if_true, if_false]
      by_cases hj : j = st.1
      · subst hj; simp
      · by_cases hl : j < st.1
        · simp [hj, hl, show j < st.1 + 1 by omega]
        · simp [hj, hl, show ¬ j < st.1 + 1 by omega]
    · by_cases h6 : a = 46
      · subst h6
        simp only [show ¬ (46 : Nat) = 47 by decide, show ¬ (46 : Nat) = 48 by decide, if_true, if_false]
        by_cases hj : j = 2 <;> simp [hj]
      · simp [h6, h7, h8]
def SRH (mu : zmu) : Prop := ∃ (ct : Nat) (f : Nat → Nat), mu 46 2 = nI ct ∧ ct ≤ 980 ∧ (∀ j, j < ct → mu 48 j = nI (f j) ∧ f j < 980) ∧ (∀ q, q < 980 → mu 47 q = 0 ∨ ∃ j, j < ct ∧ f j = q)
theorem SRH_bs {vp : Nat → Prop} {M : Nat} {st : BS} {mu : zmu} (h : BI vp M st) (hv : ∀ q, vp q → q < 980) : SRH (bsM st mu) := by
  refine ⟨st.1, st.2.1, bsM_ct, BI_le h, fun j hj => ⟨bsM_f hj, hv _ (h.2.1 j hj).1⟩, fun q hq => ?_⟩
  rw [bsM_r hq]
  rcases Nat.eq_zero_or_pos (st.2.2 q) with g | g
  · left; rw [g]; rfl
  · exact Or.inr (h.2.2.1 q (by omega))
theorem bway_n {nb : Nat → Nat → Option Nat} {pl rd y : Nat} {st : BS} (h : nb pl y = none) : bway nb pl rd st y = st := by simp [bway, h]
theorem bway_o {nb : Nat → Nat → Option Nat} {pl rd y q : Nat} {st : BS} (h : nb pl y = some q) (h0 : ¬ st.2.2 q = 0) : bway nb pl rd st y = st := by simp [bway, h, h0]
theorem bway_p {nb : Nat → Nat → Option Nat} {pl rd y q : Nat} {st : BS} (h : nb pl y = some q) (h0 : st.2.2 q = 0) : bway nb pl rd st y = bput st q (rd + 1) := by simp [bway, h, h0]
def clr (f : Nat → Nat) (i : Nat) (g : Nat → Int32) (q : Nat) : Int32 := if (List.range i).any (fun j => f j == q) = true then 0 else g q
theorem clr_s {mu : zmu} {f : Nat → Nat} {i : Nat} {g : Nat → Int32} : u2 (uR mu 47 (clr f i g)) 47 (f i) (nI 0) = uR mu 47 (clr f (i + 1) g) := by
  funext a q
  unfold u2 uR
  by_cases ha : a = 47
  · rw [if_pos ha, if_pos ha, if_pos ha]
    unfold clr
    rw [List.range_succ, List.any_append]
    by_cases hq : q = f i
    · subst hq; simp; rfl
    · have : (f i == q) = false := by simpa using fun e => hq e.symm
      simp [hq, this]
  · rw [if_neg ha, if_neg ha, if_neg ha]
set_option maxRecDepth 4000 in
theorem c_put {X : zX} {mu : zmu} {nu : znu} {st : BS} {q v : Nat} (hct : st.1 < 980) (hq : q < 980) (d : Nat) : zJ X M_X5_put d 0 0 0 [.ref 46, .int (nI q), .int (nI v)] [] 86 (zEE (bsM st mu) nu) (zlift (zex none (bsM (bput st q v) mu) nu)) := by
  refine z_aload_n dX5_put_0 rfl ?_
  refine y_getIe dX5_put_1 lf_X5_33 rfl rfl bsM_ct ?_
  refine z_sipush (v := nI 980) dX5_put_4 rfl ?_
  refine zn_icmp_ge (tgt := 37) dX5_put_7 (by decide) (by omega) (by omega) (fun hc7 => by omega) (fun hc7 => ?_)
  refine z_aload_n dX5_put_10 rfl ?_
  refine y_getR dX5_put_11 lf_X5_15 rfl rfl ?_
  refine z_aload_n dX5_put_14 rfl ?_
  refine y_getIe dX5_put_15 lf_X5_33 rfl rfl bsM_ct ?_
  refine z_iload_n dX5_put_18 rfl ?_
  refine y_iast dX5_put_19 rfl (by decide) hct ?_
  refine z_aload_n dX5_put_20 rfl ?_
  refine z_dup dX5_put_21 rfl ?_
  refine y_getIe dX5_put_22 lf_X5_33 rfl rfl ((u2_a (by decide)).trans bsM_ct) ?_
  refine z_iconst (v := nI 1) dX5_put_25 rfl ?_
  refine zn_iadd dX5_put_26 ?_
  refine y_putI dX5_put_27 lp_X5_33 rfl rfl ?_
  refine z_aload_n dX5_put_30 rfl ?_
  refine y_getR dX5_put_31 lf_X5_9 rfl rfl ?_
  refine z_iload_n dX5_put_34 rfl ?_
  refine z_iload_n dX5_put_35 rfl ?_
  refine y_iast dX5_put_36 rfl (by decide) hq ?_
  exact y_return dX5_put_37 rfl ⟨rfl, bsM_put hq, rfl⟩
set_option maxRecDepth 4000 in
theorem c_clear_l {X : zX} {mu : zmu} {nu : znu} {ct s : Nat} {f : Nat → Nat} (h1 : mu 46 2 = nI ct) (h2 : ct ≤ 980) (h3 : ∀ j, j < ct → mu 48 j = nI (f j) ∧ f j < 980) (h4 : ∀ q, q < 980 → mu 47 q = 0 ∨ ∃ j, j < ct ∧ f j = q) (d : Nat) : ∀ n i , i + n = ct → zJ X M_X5_clear d 0 0 2 [.ref 46, .int (nI i)] [] 86 (zEE (uR mu 47 (clr f i (mu 47))) nu) (zlift (zex none (bsM (0, (fun _ => s), (fun _ => 0)) mu) nu)) := by
  intro n
  induction n with
  | zero =>
    intro i  hi
    obtain rfl : i = ct := by omega
    have e1 : u2 (uR mu 47 (clr f i (mu 47))) 46 2 (nI 0) = bsM (0, (fun _ => s), (fun _ => 0)) mu := by
      unfold bsM
      rw [u2_uR (by decide), show uR (u2 mu 46 2 (nI 0)) 48 (fun j => if j < 0 then nI s else mu 48 j) = u2 mu 46 2 (nI 0) by
        funext a j; unfold uR; by_cases ha : a = 48
        · subst ha; simp [u2]
        · simp [ha]]
      congr 1
      funext q
      unfold clr
      by_cases hq : q < 980
      · rw [if_pos hq]
        rcases h4 q hq with g | ⟨j, hj, e⟩
        · rw [g]; split <;> rfl
        · rw [if_pos (List.any_eq_true.mpr ⟨j, List.mem_range.mpr hj, by simpa using e⟩)]; rfl
      · rw [if_neg hq, if_neg]
        intro h
        obtain ⟨j, hj, e⟩ := List.any_eq_true.mp h
        have := (h3 j (List.mem_range.mp hj)).2
        have e : f j = q := by simpa using e
        omega
    refine z_iload_n dX5_clear_2 rfl ?_
    refine z_aload_n dX5_clear_3 rfl ?_
    refine y_getIe dX5_clear_4 lf_X5_33 rfl rfl ((congrFun (uR_a (by decide)) 2).trans h1) ?_
    refine zn_icmp_ge (tgt := 35) dX5_clear_7 (by decide) (by omega) (by omega) (fun hc7 => ?_) (fun hc7 => by omega)
    refine z_aload_n dX5_clear_35 rfl ?_
    refine z_iconst (v := nI 0) dX5_clear_36 rfl ?_
    refine y_putI dX5_clear_37 lp_X5_33 rfl rfl ?_
    exact y_return dX5_clear_40 rfl ⟨rfl, e1, rfl⟩
  | succ n ih =>
    intro i  hi
    refine z_iload_n dX5_clear_2 rfl ?_
    refine z_aload_n dX5_clear_3 rfl ?_
    refine y_getIe dX5_clear_4 lf_X5_33 rfl rfl ((congrFun (uR_a (by decide)) 2).trans h1) ?_
    refine zn_icmp_ge (tgt := 35) dX5_clear_7 (by decide) (by omega) (by omega) (fun hc7 => by omega) (fun hc7 => ?_)
    refine z_iload_n dX5_clear_10 rfl ?_
    refine z_sipush (v := nI 980) dX5_clear_11 rfl ?_
    refine zn_icmp_ge (tgt := 35) dX5_clear_14 (by decide) (by omega) (by omega) (fun hc14 => by omega) (fun hc14 => ?_)
    refine z_aload_n dX5_clear_17 rfl ?_
    refine y_getR dX5_clear_18 lf_X5_9 rfl rfl ?_
    refine z_aload_n dX5_clear_21 rfl ?_
    refine y_getR dX5_clear_22 lf_X5_15 rfl rfl ?_
    refine z_iload_n dX5_clear_25 rfl ?_
    refine y_ialde dX5_clear_26 rfl (by decide) (by omega) ((congrFun (uR_a (by decide)) i).trans (h3 i (by omega)).1) ?_
    refine z_iconst (v := nI 0) dX5_clear_27 rfl ?_
    refine y_iast dX5_clear_28 rfl (by decide) (h3 i (by omega)).2 ?_
    rw [clr_s]
    refine zn_iinc1 dX5_clear_29 rfl ?_
    refine z_goto (tgt := 2) dX5_clear_32 (by decide) ?_
    exact ih (i + 1) (by omega)
set_option maxRecDepth 4000 in
theorem c_clear {X : zX} {mu : zmu} {nu : znu} {s : Nat} (h : SRH mu) (d : Nat) : zJ X M_X5_clear d 0 0 0 [.ref 46, zu] [] 86 (zEE (mu) nu) (zlift (zex none (bsM (0, (fun _ => s), (fun _ => 0)) mu) nu)) := by
  obtain ⟨ct, f, h1, h2, h3, h4⟩ := h
  refine z_iconst (v := nI 0) dX5_clear_0 rfl ?_
  refine z_istore1 dX5_clear_1 rfl ?_
  have k := c_clear_l (X := X) (nu := nu) (s := s) h1 h2 h3 h4 d ct 0 (by omega); rw [show uR mu 47 (clr f 0 (mu 47)) = mu by funext a q; unfold uR clr; by_cases ha : a = 47; (subst ha; simp); simp [ha]] at k; exact k
/-- places of a pattern -/
def vpl (p : PT) (q : Nat) : Prop := q < 980 ∧ q % 20 < pw p * ph p
def nbr (p : PT) (cut b : Nat) : Nat → Nat → Option Nat := fun pl y => pon p cut b pl y
theorem vpl_lt {p : PT} : ∀ q, vpl p q → q < 980 := fun _ h => h.1
theorem nbr_ok {p : PT} (hp : PV p) {cut b : Nat} (hb : b < pb p) : ∀ pl y q, vpl p pl → y < 4 → nbr p cut b pl y = some q → vpl p q := fun _ _ _ h hy e => ⟨(pon_ok hp hb h.2 h.1 hy e).1, (pon_ok hp hb h.2 h.1 hy e).2.1⟩
theorem BI_r {vp : Nat → Prop} {M : Nat} {st : BS} (h : BI vp M st) (q : Nat) : st.2.2 q ≤ 980 := by
  rcases Nat.eq_zero_or_pos (st.2.2 q) with g | g
  · omega
  · obtain ⟨j, hj, e⟩ := h.2.2.1 q (by omega)
    have := (h.2.1 j hj).2.2.2
    have := BI_le h
    rw [e] at *
    omega
set_option maxRecDepth 4000 in
theorem c_spread_in {X : zX} {mu : zmu} {nu : znu} {p : PT} {P : Nat → Nat} {cut b : Nat} (hp : PV p) (hP : PFc p mu) (hS : SFc p P cut 10 mu) (hV : SV p P cut) (hb : b < pb p) {st : BS} {k most : Nat} {Q : zq} (hI : BI (vpl p) (st.2.2 (st.2.1 k) + 1) st) (hk : k < st.1) (d : Nat) (kk : zJ X M_X5_spread (d + 3) 0 0 112 [.ref 46, .ref 10, .int (nI b), .int (nI most), .int (nI k), .int (nI (st.2.1 k)), .int (nI (st.2.2 (st.2.1 k))), .int (nI 4), zu] [] 86 (zEE (bsM (bwys (nbr p cut b) (st.2.1 k) (st.2.2 (st.2.1 k)) st 4) mu) nu) (zlift (Q))) : ∀ n i , i + n = 4 → zJ X M_X5_spread (d + 3) 0 0 63 [.ref 46, .ref 10, .int (nI b), .int (nI most), .int (nI k), .int (nI (st.2.1 k)), .int (nI (st.2.2 (st.2.1 k))), .int (nI i), zu] [] 86 (zEE (bsM (bwys (nbr p cut b) (st.2.1 k) (st.2.2 (st.2.1 k)) st i) mu) nu) (zlift (Q)) := by
  intro n
  induction n with
  | zero =>
    intro i  hi
    obtain rfl : i = 4 := by omega
    refine z_iload dX5_spread_63 rfl ?_
    refine z_iconst (v := nI 4) dX5_spread_65 rfl ?_
    refine zn_icmp_ge (tgt := 112) dX5_spread_66 (by decide) (by omega) (by omega) (fun hc66 => ?_) (fun hc66 => by omega)
    exact kk
  | succ n ih =>
    intro i  hi
    have hIi := BI_wys vpl_lt (nbr_ok hp hb (cut := cut)) hk hI i (by omega)
    have hkk := hI.2.1 k hk
    have hr1 := BI_r hI (st.2.1 k)
    have hP1 : PFc p (bsM (bwys (nbr p cut b) (st.2.1 k) (st.2.2 (st.2.1 k)) st i) mu) := PFc_eq hP (fun a g1 g2 => bsM_o (by omega) (by omega) (by omega))
    have hc1 : bsM (bwys (nbr p cut b) (st.2.1 k) (st.2.2 (st.2.1 k)) st i) mu 10 2 = nI cut := (congrFun (bsM_o (by decide) (by decide) (by decide)) 2).trans hS.2
    have ew : bwys (nbr p cut b) (st.2.1 k) (st.2.2 (st.2.1 k)) st (i + 1) = bway (nbr p cut b) (st.2.1 k) (st.2.2 (st.2.1 k)) (bwys (nbr p cut b) (st.2.1 k) (st.2.2 (st.2.1 k)) st i) i := rfl
    refine z_iload dX5_spread_63 rfl ?_
    refine z_iconst (v := nI 4) dX5_spread_65 rfl ?_
    refine zn_icmp_ge (tgt := 112) dX5_spread_66 (by decide) (by omega) (by omega) (fun hc66 => by omega) (fun hc66 => ?_)
    refine z_aload_n dX5_spread_69 rfl ?_
    refine z_iload_n dX5_spread_70 rfl ?_
    refine z_iload dX5_spread_71 rfl ?_
    refine z_iload dX5_spread_73 rfl ?_
    refine y_callV3x (M' := M_X4_placeOn) dX5_spread_75 lm_X5_37 cv_X4_placeOn rfl (Nat.le_of_ble_eq_true rfl) (Nat.le_of_ble_eq_true rfl) rfl (c_placeOn hp hP1 sAt10 hb hkk.1.1 hkk.1.2 (y := i) (by omega) hc1 hV.2 d) ?_
    cases hst : pon p cut b (st.2.1 k) i with
    | none =>
      have e2 : bwys (nbr p cut b) (st.2.1 k) (st.2.2 (st.2.1 k)) st (i + 1) = bwys (nbr p cut b) (st.2.1 k) (st.2.2 (st.2.1 k)) st i := by rw [ew]; exact bway_n hst
      refine z_istore8 dX5_spread_78 rfl ?_
      refine z_iload dX5_spread_80 rfl ?_
      refine z_iconst (v := -1) dX5_spread_82 rfl ?_
      refine z_icmp_eq (tgt := 106) dX5_spread_83 (by decide) (fun hc83 => ?_) (fun hc83 => by exact absurd rfl hc83)
      refine zn_iinc7 dX5_spread_106 rfl ?_
      refine z_goto (tgt := 63) dX5_spread_109 (by decide) ?_
      rw [← e2]; exact z_sub (ih (i + 1) (by omega)) ⟨Or.inr rfl, Or.inr rfl, Or.inr rfl, Or.inr rfl, Or.inr rfl, Or.inr rfl, Or.inr rfl, Or.inr rfl, Or.inl rfl, trivial⟩
    | some q =>
      have hq := pon_ok hp hb hkk.1.2 hkk.1.1 (by omega) hst
      have hrq := BI_r hIi q
      rw [show oI (some q) = nI q from rfl]
      refine z_istore8 dX5_spread_78 rfl ?_
      refine z_iload dX5_spread_80 rfl ?_
      refine z_iconst (v := -1) dX5_spread_82 rfl ?_
      refine z_icmp_eq (tgt := 106) dX5_spread_83 (by decide) (fun hc83 => by exact absurd hc83 (nI_m1 (by omega))) (fun hc83 => ?_)
      refine z_aload_n dX5_spread_86 rfl ?_
      refine y_getR dX5_spread_87 lf_X5_9 rfl rfl ?_
      refine z_iload dX5_spread_90 rfl ?_
      refine y_ialde dX5_spread_92 rfl (by decide) hq.1 (bsM_r hq.1) ?_
      refine zn_if_ne (tgt := 106) dX5_spread_93 (by decide) (by omega) (fun hc93 => ?_) (fun hc93 => ?_)
      · have e2 : bwys (nbr p cut b) (st.2.1 k) (st.2.2 (st.2.1 k)) st (i + 1) = bwys (nbr p cut b) (st.2.1 k) (st.2.2 (st.2.1 k)) st i := by rw [ew]; exact bway_o hst hc93
        refine zn_iinc7 dX5_spread_106 rfl ?_
        refine z_goto (tgt := 63) dX5_spread_109 (by decide) ?_
        rw [← e2]; exact z_sub (ih (i + 1) (by omega)) ⟨Or.inr rfl, Or.inr rfl, Or.inr rfl, Or.inr rfl, Or.inr rfl, Or.inr rfl, Or.inr rfl, Or.inr rfl, Or.inl rfl, trivial⟩
      · have e2 : bwys (nbr p cut b) (st.2.1 k) (st.2.2 (st.2.1 k)) st (i + 1) = bput (bwys (nbr p cut b) (st.2.1 k) (st.2.2 (st.2.1 k)) st i) q (st.2.2 (st.2.1 k) + 1) := by rw [ew]; exact bway_p hst hc93
        refine z_aload_n dX5_spread_96 rfl ?_
        refine z_iload dX5_spread_97 rfl ?_
        refine z_iload dX5_spread_99 rfl ?_
        refine z_iconst (v := nI 1) dX5_spread_101 rfl ?_
        refine zn_iadd dX5_spread_102 ?_
        refine y_callV2x (M' := M_X5_put) dX5_spread_103 lm_X5_29 cv_X5_put rfl (Nat.le_of_ble_eq_true rfl) (Nat.le_of_ble_eq_true rfl) rfl (c_put (BI_lt hIi vpl_lt hq.1 hc93) hq.1 (d + 2)) ?_
        refine zn_iinc7 dX5_spread_106 rfl ?_
        refine z_goto (tgt := 63) dX5_spread_109 (by decide) ?_
        rw [← e2]; exact z_sub (ih (i + 1) (by omega)) ⟨Or.inr rfl, Or.inr rfl, Or.inr rfl, Or.inr rfl, Or.inr rfl, Or.inr rfl, Or.inr rfl, Or.inr rfl, Or.inl rfl, trivial⟩
set_option maxRecDepth 4000 in
theorem c_spread_l {X : zX} {mu : zmu} {nu : znu} {p : PT} {P : Nat → Nat} {cut b : Nat} (hp : PV p) (hP : PFc p mu) (hS : SFc p P cut 10 mu) (hV : SV p P cut) (hb : b < pb p) {most : Nat} (hm : most ≤ 980) (d : Nat) : ∀ n i , i + n = 980 → (∀ j, j < i → j < (BB (nbr p cut b) (P b) j).1 ∧ (BB (nbr p cut b) (P b) j).2.2 ((BB (nbr p cut b) (P b) j).2.1 j) ≤ most) → zJ X M_X5_spread (d + 3) 0 0 18 [.ref 46, .ref 10, .int (nI b), .int (nI most), .int (nI i), zu, zu, zu, zu] [] 86 (zEE (bsM (BB (nbr p cut b) (P b) i) mu) nu) (zlift (fun r mu1 nu1 => r = none ∧ nu1 = nu ∧ ∃ k, BSt (nbr p cut b) (P b) most k ∧ mu1 = bsM (BB (nbr p cut b) (P b) k) mu)) := by
  intro n
  induction n with
  | zero =>
    intro i  hi
    intro hall
    have hs : vpl p (P b) := hV.1 b hb
    have hI := BB_I hs vpl_lt (nbr_ok hp hb (cut := cut)) i (fun j hj => (hall j hj).1)
    have hle := BI_le hI
    refine z_iload dX5_spread_18 rfl ?_
    refine z_aload_n dX5_spread_20 rfl ?_
    refine y_getIe dX5_spread_21 lf_X5_33 rfl rfl bsM_ct ?_
    refine zn_icmp_ge (tgt := 118) dX5_spread_24 (by decide) (by omega) (by omega) (fun hc24 => ?_) (fun hc24 => by omega)
    exact y_return dX5_spread_118 rfl ⟨rfl, rfl, i, ⟨by omega, hall, Or.inl (by omega)⟩, rfl⟩
  | succ n ih =>
    intro i  hi
    intro hall
    have hs : vpl p (P b) := hV.1 b hb
    have hI := BB_I hs vpl_lt (nbr_ok hp hb (cut := cut)) i (fun j hj => (hall j hj).1)
    have hle := BI_le hI
    refine z_iload dX5_spread_18 rfl ?_
    refine z_aload_n dX5_spread_20 rfl ?_
    refine y_getIe dX5_spread_21 lf_X5_33 rfl rfl bsM_ct ?_
    refine zn_icmp_ge (tgt := 118) dX5_spread_24 (by decide) (by omega) (by omega) (fun hc24 => ?_) (fun hc24 => ?_)
    · exact y_return dX5_spread_118 rfl ⟨rfl, rfl, i, ⟨by omega, hall, Or.inl hc24⟩, rfl⟩
    · have hkk := hI.2.1 i hc24
      have hrr := BI_r hI ((BB (nbr p cut b) (P b) i).2.1 i)
      refine z_iload dX5_spread_27 rfl ?_
      refine z_sipush (v := nI 980) dX5_spread_29 rfl ?_
      refine zn_icmp_ge (tgt := 118) dX5_spread_32 (by decide) (by omega) (by omega) (fun hc32 => by omega) (fun hc32 => ?_)
      refine z_aload_n dX5_spread_35 rfl ?_
      refine y_getR dX5_spread_36 lf_X5_15 rfl rfl ?_
      refine z_iload dX5_spread_39 rfl ?_
      refine y_ialde dX5_spread_41 rfl (by decide) (by omega) (bsM_f hc24) ?_
      refine z_istore5 dX5_spread_42 rfl ?_
      refine z_aload_n dX5_spread_44 rfl ?_
      refine y_getR dX5_spread_45 lf_X5_9 rfl rfl ?_
      refine z_iload dX5_spread_48 rfl ?_
      refine y_ialde dX5_spread_50 rfl (by decide) hkk.1.1 (bsM_r hkk.1.1) ?_
      refine z_istore6 dX5_spread_51 rfl ?_
      refine z_iload dX5_spread_53 rfl ?_
      refine z_iload_n dX5_spread_55 rfl ?_
      refine zn_icmp_le (tgt := 60) dX5_spread_56 (by decide) (by omega) (by omega) (fun hc56 => ?_) (fun hc56 => ?_)
      · refine z_iconst (v := nI 0) dX5_spread_60 rfl ?_
        refine z_istore7 dX5_spread_61 rfl ?_
        have ih1 := ih (i + 1) (by omega) (fun j hj => by rcases Nat.lt_or_ge j i with g | g; exact hall j g; rw [show j = i by omega]; exact ⟨hc24, hc56⟩)
        have eB : BB (nbr p cut b) (P b) (i + 1) = bwys (nbr p cut b) ((BB (nbr p cut b) (P b) i).2.1 i) ((BB (nbr p cut b) (P b) i).2.2 ((BB (nbr p cut b) (P b) i).2.1 i)) (BB (nbr p cut b) (P b) i) 4 := by show bnode _ _ _ = _; unfold bnode; rw [if_pos hc24]
        rw [eB] at ih1
        have hI2 : BI (vpl p) ((BB (nbr p cut b) (P b) i).2.2 ((BB (nbr p cut b) (P b) i).2.1 i) + 1) (BB (nbr p cut b) (P b) i) := BI_mono hI (by unfold bmx; split; omega; have := hI.2.2.2.2 (i - 1) i (by omega) hc24; omega)
        refine c_spread_in hp hP hS hV hb hI2 hc24 d ?_ 4 0 (by omega)
        refine zn_iinc4 dX5_spread_112 rfl ?_
        refine z_goto (tgt := 18) dX5_spread_115 (by decide) ?_
        exact z_sub ih1 ⟨Or.inr rfl, Or.inr rfl, Or.inr rfl, Or.inr rfl, Or.inr rfl, Or.inl rfl, Or.inl rfl, Or.inl rfl, Or.inl rfl, trivial⟩
      · exact y_return dX5_spread_59 rfl ⟨rfl, rfl, i, ⟨by omega, hall, Or.inr ⟨hc24, hc56⟩⟩, rfl⟩
set_option maxRecDepth 4000 in
theorem c_spread {X : zX} {mu : zmu} {nu : znu} {p : PT} {P : Nat → Nat} {cut b : Nat} (hp : PV p) (hP : PFc p mu) (hS : SFc p P cut 10 mu) (hV : SV p P cut) (hb : b < pb p) {most : Nat} (hm : most ≤ 980) (hR : SRH mu) (d : Nat) : zJ X M_X5_spread (d + 3) 0 0 0 [.ref 46, .ref 10, .int (nI b), .int (nI most), zu, zu, zu, zu, zu] [] 86 (zEE (mu) nu) (zlift (fun r mu1 nu1 => r = none ∧ nu1 = nu ∧ ∃ k, BSt (nbr p cut b) (P b) most k ∧ mu1 = bsM (BB (nbr p cut b) (P b) k) mu)) := by
  have h5 := hp.2.2.2.2.2.1
  have hPb := hV.1 b hb
  have e0 : bput (0, (fun _ => P b), (fun _ => 0)) (P b) 1 = BB (nbr p cut b) (P b) 0 := by
    unfold bput BB
    simp
  refine z_aload_n dX5_spread_0 rfl ?_
  refine y_callV0x (M' := M_X5_clear) dX5_spread_1 lm_X5_21 cv_X5_clear rfl (Nat.le_of_ble_eq_true rfl) (Nat.le_of_ble_eq_true rfl) rfl (c_clear (s := P b) hR (d + 2)) ?_
  refine z_aload_n dX5_spread_4 rfl ?_
  refine z_aload_n dX5_spread_5 rfl ?_
  refine y_getR dX5_spread_6 lf_X5_24 rfl rfl ?_
  refine z_iload_n dX5_spread_9 rfl ?_
  refine y_ialde dX5_spread_10 rfl (by decide) (by omega) ((congrFun (bsM_o (by decide) (by decide) (by decide)) b).trans (hS.1 b hb)) ?_
  refine z_iconst (v := nI 1) dX5_spread_11 rfl ?_
  refine y_callV2x (M' := M_X5_put) dX5_spread_12 lm_X5_29 cv_X5_put rfl (Nat.le_of_ble_eq_true rfl) (Nat.le_of_ble_eq_true rfl) rfl (c_put (show 0 < 980 by decide) hPb.1 (d + 2)) ?_
  rw [e0]
  refine z_iconst (v := nI 0) dX5_spread_15 rfl ?_
  refine z_istore4 dX5_spread_16 rfl ?_
  exact c_spread_l hp hP hS hV hb hm d 980 0 (by omega) (fun j hj => by omega)
/-- how far: the round of home, less 1 -/
def farO (p : PT) (cut b s : Nat) : Option Nat := if rfn (nbr p cut b) s (480 + pH p b) = 0 then none else some (rfn (nbr p cut b) s (480 + pH p b) - 1)
set_option maxRecDepth 4000 in
theorem c_stepsHome {X : zX} {mu : zmu} {nu : znu} {p : PT} {P : Nat → Nat} {cut b : Nat} (hp : PV p) (hP : PFc p mu) (hS : SFc p P cut 10 mu) (hV : SV p P cut) (hb : b < pb p) (hR : SRH mu) (d : Nat) : zJ X M_X5_stepsHome (d + 4) 0 0 0 [.ref 46, .ref 10, .int (nI b), zu] [] 86 (zEE (mu) nu) (zlift (fun r mu1 nu1 => r = some (.int (o9 (farO p cut b (P b)))) ∧ nu1 = nu ∧ SRH mu1 ∧ ∀ a, a ≠ 46 → a ≠ 47 → a ≠ 48 → mu1 a = mu a)) := by
  have h20 := hp.n20
  have hHb := (hp.2.2.2.2.2.2.2 b hb).1
  refine z_aload_n dX5_stepsHome_0 rfl ?_
  refine z_aload_n dX5_stepsHome_1 rfl ?_
  refine z_iload_n dX5_stepsHome_2 rfl ?_
  refine z_sipush (v := nI 980) dX5_stepsHome_3 rfl ?_
  refine y_callV3 (M' := M_X5_spread) dX5_stepsHome_6 lm_X5_41 cv_X5_spread rfl (Nat.le_of_ble_eq_true rfl) (Nat.le_of_ble_eq_true rfl) rfl (c_spread hp hP hS hV hb (most := 980) (by decide) hR d) (fun r mu1 nu1 hq => ?_)
  obtain ⟨rfl, rfl, k, hk, rfl⟩ := hq
  have hs : vpl p (P b) := hV.1 b hb
  have hI := BB_I hs vpl_lt (nbr_ok hp hb (cut := cut)) k (fun j hj => (hk.2.1 j hj).1)
  have hr := BI_r hI (480 + pH p b)
  have eE := BSt_end hs vpl_lt (nbr_ok hp hb (cut := cut)) hk
  have eR : (BB (nbr p cut b) (P b) k).2.2 (480 + pH p b) = rfn (nbr p cut b) (P b) (480 + pH p b) := by rw [eE]; rfl
  refine z_aload_n dX5_stepsHome_9 rfl ?_
  refine y_getR dX5_stepsHome_10 lf_X5_9 rfl rfl ?_
  refine z_aload_n dX5_stepsHome_13 rfl ?_
  refine z_iload_n dX5_stepsHome_14 rfl ?_
  refine y_callV1x (M' := M_X4_homePlace) dX5_stepsHome_15 lm_X5_45 cv_X4_homePlace rfl (Nat.le_of_ble_eq_true rfl) (Nat.le_of_ble_eq_true rfl) rfl (c_homePlace hp (PFc_eq hP (fun a g1 g2 => bsM_o (by omega) (by omega) (by omega))) sAt10 hb (d + 3)) ?_
  refine y_ialde dX5_stepsHome_18 rfl (by decide) (by omega) (bsM_r (by omega)) ?_
  refine z_istore3 dX5_stepsHome_19 rfl ?_
  refine z_iload_n dX5_stepsHome_20 rfl ?_
  refine zn_if_ne (tgt := 29) dX5_stepsHome_21 (by decide) (by omega) (fun hc21 => ?_) (fun hc21 => ?_)
  · refine z_iload_n dX5_stepsHome_29 rfl ?_
    refine z_iconst (v := nI 1) dX5_stepsHome_30 rfl ?_
    refine zn_isub dX5_stepsHome_31 (by omega) ?_
    exact y_ireturn dX5_stepsHome_32 rfl ⟨by unfold farO; rw [← eR, if_neg hc21]; rfl, rfl, SRH_bs hI vpl_lt, fun a g1 g2 g3 => bsM_o g1 g2 g3⟩
  · refine z_bipush (v := -9) dX5_stepsHome_24 rfl ?_
    refine z_goto (tgt := 32) dX5_stepsHome_26 (by decide) ?_
    exact y_ireturn dX5_stepsHome_32 rfl ⟨by unfold farO; rw [← eR, if_pos hc21]; rfl, rfl, SRH_bs hI vpl_lt, fun a g1 g2 g3 => bsM_o g1 g2 g3⟩
def rcf (p : PT) (cut b s n c : Nat) : Bool := (List.range 980).any (fun q => decide (rfn (nbr p cut b) s q ≠ 0) && (decide (rfn (nbr p cut b) s q ≤ n + 1) && decide (q % 20 = c)))
/-- cells within n steps, as bits -/
def rch (p : PT) (cut b s n : Nat) : Nat := bset (rcf p cut b s n) 20
def orS (f : Nat → Nat) : Nat → Nat
  | 0 => 0
  | i + 1 => orS f i ||| 2 ^ (f i % 20)
theorem orS_bit {f : Nat → Nat} {c : Nat} : ∀ i, (orS f i).testBit c = true ↔ ∃ j, j < i ∧ f j % 20 = c
  | 0 => by simp [orS]
  | i + 1 => by
    have ih := orS_bit (f := f) (c := c) i
    unfold orS
    rw [Nat.testBit_or, Bool.or_eq_true, ih, Nat.testBit_two_pow]
    constructor
    · rintro (⟨j, h1, h2⟩ | h)
      · exact ⟨j, by omega, h2⟩
      · exact ⟨i, by omega, by simpa using h⟩
    · rintro ⟨j, h1, h2⟩
      by_cases e : j = i
      · subst e; right; simpa using h2
      · exact Or.inl ⟨j, by omega, h2⟩
theorem rch_lt (p : PT) (cut b s n : Nat) : rch p cut b s n < 2 ^ 20 := bset_lt _ _
theorem orS_rch {p : PT} (hp : PV p) {cut b s n k : Nat} (hb : b < pb p) (hs : vpl p s) (h : BSt (nbr p cut b) s n k) : orS (BB (nbr p cut b) s k).2.1 (BB (nbr p cut b) s k).1 = rch p cut b s n := by
  have hI := BB_I hs vpl_lt (nbr_ok hp hb (cut := cut)) k (fun j hj => (h.2.1 j hj).1)
  apply Nat.eq_of_testBit_eq
  intro c
  rw [rch, bset_bit]
  apply Bool.eq_iff_iff.mpr
  rw [orS_bit]
  constructor
  · rintro ⟨j, hj, e⟩
    have g := (BSt_in hs vpl_lt (nbr_ok hp hb (cut := cut)) h _).mp ⟨j, hj, rfl⟩
    have hc : c < 20 := by omega
    rw [Bool.and_eq_true, decide_eq_true_eq]
    refine ⟨hc, List.any_eq_true.mpr ⟨_, List.mem_range.mpr (hI.2.1 j hj).1.1, ?_⟩⟩
    simp [g.1, g.2, e]
  · intro h1
    rw [Bool.and_eq_true, decide_eq_true_eq] at h1
    obtain ⟨q, hq, h2⟩ := List.any_eq_true.mp h1.2
    simp only [Bool.and_eq_true, decide_eq_true_eq] at h2
    obtain ⟨j, hj, e⟩ := (BSt_in hs vpl_lt (nbr_ok hp hb (cut := cut)) h q).mpr ⟨h2.1, h2.2.1⟩
    exact ⟨j, hj, by rw [e]; exact h2.2.2⟩
set_option maxRecDepth 4000 in
theorem c_cellsWithin_l {X : zX} {mu : zmu} {nu : znu} {p : PT} {st : BS} {M b m : Nat} (hI : BI (vpl p) M st) (d : Nat) : ∀ n i , i + n = st.1 → zJ X M_X5_cellsWithin (d + 4) 0 0 13 [.ref 46, .ref 10, .int (nI b), .int (nI m), .int (nI (orS st.2.1 i)), .int (nI i)] [] 86 (zEE (bsM st mu) nu) (zlift (zex (some (.int (nI (orS st.2.1 st.1)))) (bsM st mu) nu)) := by
  intro n
  induction n with
  | zero =>
    intro i  hi
    have hle := BI_le hI
    refine z_iload dX5_cellsWithin_13 rfl ?_
    refine z_aload_n dX5_cellsWithin_15 rfl ?_
    refine y_getIe dX5_cellsWithin_16 lf_X5_33 rfl rfl bsM_ct ?_
    refine zn_icmp_ge (tgt := 53) dX5_cellsWithin_19 (by decide) (by omega) (by omega) (fun hc19 => ?_) (fun hc19 => by omega)
    refine z_iload dX5_cellsWithin_53 rfl ?_
    exact y_ireturn dX5_cellsWithin_55 rfl ⟨by rw [show i = st.1 by omega], rfl, rfl⟩
  | succ n ih =>
    intro i  hi
    have hle := BI_le hI
    have hkk := hI.2.1 i (by omega)
    have hk98 := hkk.1.1
    refine z_iload dX5_cellsWithin_13 rfl ?_
    refine z_aload_n dX5_cellsWithin_15 rfl ?_
    refine y_getIe dX5_cellsWithin_16 lf_X5_33 rfl rfl bsM_ct ?_
    refine zn_icmp_ge (tgt := 53) dX5_cellsWithin_19 (by decide) (by omega) (by omega) (fun hc19 => by omega) (fun hc19 => ?_)
    refine z_iload dX5_cellsWithin_22 rfl ?_
    refine z_sipush (v := nI 980) dX5_cellsWithin_24 rfl ?_
    refine zn_icmp_ge (tgt := 53) dX5_cellsWithin_27 (by decide) (by omega) (by omega) (fun hc27 => by omega) (fun hc27 => ?_)
    refine z_iload dX5_cellsWithin_30 rfl ?_
    refine z_iconst (v := nI 1) dX5_cellsWithin_32 rfl ?_
    refine z_aload_n dX5_cellsWithin_33 rfl ?_
    refine y_getR dX5_cellsWithin_34 lf_X5_15 rfl rfl ?_
    refine z_iload dX5_cellsWithin_37 rfl ?_
    refine y_ialde dX5_cellsWithin_39 rfl (by decide) (by omega) (bsM_f (by omega)) ?_
    refine y_callSN1x (M' := M_X8_cellOf) dX5_cellsWithin_40 ln_X5_49 cs_X8_cellOf (Nat.le_of_ble_eq_true rfl) (Nat.le_of_ble_eq_true rfl) rfl (c_cellOf (st.2.1 i) (by omega) (d + 3)) ?_
    refine zn_ishl dX5_cellsWithin_43 (by omega) (by have : 1 * 2 ^ (st.2.1 i % 20) ≤ 1 * 2 ^ 20 := Nat.mul_le_mul_left 1 (Nat.pow_le_pow_right (by decide) (by omega)); omega) ?_
    rw [Nat.one_mul]
    refine zn_ior dX5_cellsWithin_44 ?_
    refine z_istore4 dX5_cellsWithin_45 rfl ?_
    refine zn_iinc5 dX5_cellsWithin_47 rfl ?_
    refine z_goto (tgt := 13) dX5_cellsWithin_50 (by decide) ?_
    exact ih (i + 1) (by omega)
set_option maxRecDepth 4000 in
theorem c_cellsWithin {X : zX} {mu : zmu} {nu : znu} {p : PT} {P : Nat → Nat} {cut b : Nat} (hp : PV p) (hP : PFc p mu) (hS : SFc p P cut 10 mu) (hV : SV p P cut) (hb : b < pb p) {n : Nat} (hn : n ≤ 980) (hR : SRH mu) (d : Nat) : zJ X M_X5_cellsWithin (d + 4) 0 0 0 [.ref 46, .ref 10, .int (nI b), .int (nI n), zu, zu] [] 86 (zEE (mu) nu) (zlift (fun r mu1 nu1 => r = some (.int (nI (rch p cut b (P b) n))) ∧ nu1 = nu ∧ SRH mu1 ∧ ∀ a, a ≠ 46 → a ≠ 47 → a ≠ 48 → mu1 a = mu a)) := by
  refine z_aload_n dX5_cellsWithin_0 rfl ?_
  refine z_aload_n dX5_cellsWithin_1 rfl ?_
  refine z_iload_n dX5_cellsWithin_2 rfl ?_
  refine z_iload_n dX5_cellsWithin_3 rfl ?_
  refine y_callV3 (M' := M_X5_spread) dX5_cellsWithin_4 lm_X5_41 cv_X5_spread rfl (Nat.le_of_ble_eq_true rfl) (Nat.le_of_ble_eq_true rfl) rfl (c_spread hp hP hS hV hb hn hR d) (fun r mu1 nu1 hq => ?_)
  obtain ⟨rfl, rfl, k, hk, rfl⟩ := hq
  have hs : vpl p (P b) := hV.1 b hb
  have hI := BB_I hs vpl_lt (nbr_ok hp hb (cut := cut)) k (fun j hj => (hk.2.1 j hj).1)
  refine z_iconst (v := nI 0) dX5_cellsWithin_7 rfl ?_
  refine z_istore4 dX5_cellsWithin_8 rfl ?_
  refine z_iconst (v := nI 0) dX5_cellsWithin_10 rfl ?_
  refine z_istore5 dX5_cellsWithin_11 rfl ?_
  refine z_post (c_cellsWithin_l hI d (BB (nbr p cut b) (P b) k).1 0 (by omega)) ?_
  rintro r n1 h1 ⟨rfl, mu1, nu1, rfl, rfl, rfl, rfl⟩
  exact ⟨rfl, _, _, rfl, by rw [orS_rch hp hb hs hk], rfl, SRH_bs hI vpl_lt, fun a g1 g2 g3 => bsM_o g1 g2 g3⟩
