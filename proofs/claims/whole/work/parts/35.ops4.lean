theorem bit1 (a c : Nat) : a / 2 ^ c &&& 1 = if a.testBit c = true then 1 else 0 := by
  rw [show a / 2 ^ c &&& 1 = a / 2 ^ c % 2 from Nat.and_two_pow_sub_one_eq_mod (a / 2 ^ c) 1, Nat.testBit_eq_decide_div_mod_eq]
  have := Nat.mod_lt (a / 2 ^ c) (show 0 < 2 by decide)
  by_cases h : a / 2 ^ c % 2 = 1
  · simp [h]
  · simp [h]; omega
def shk (R : Nat → Nat) (nb c : Nat) : Nat := bcnt (fun j => (R j).testBit c) nb
def shs (R : Nat → Nat) (nb b : Nat) : Nat → Nat
  | 0 => 0
  | c + 1 => shs R nb b c + if (R b).testBit c = true then 60 / shk R nb c else 0
theorem shs_le (R : Nat → Nat) (nb b : Nat) : ∀ c, shs R nb b c ≤ 60 * c
  | 0 => Nat.le_refl _
  | c + 1 => by
    have g := shs_le R nb b c
    have := Nat.div_le_self 60 (shk R nb c)
    unfold shs; split <;> omega
theorem bcnt_at {f : Nat → Bool} : ∀ {n b : Nat}, b < n → f b = true → 0 < bcnt f n
  | 0, _, h, _ => absurd h (Nat.not_lt_zero _)
  | n + 1, b, h, e => by
    rw [bcnt_s]
    by_cases hb : b = n
    · rw [← hb, e]; simp
    · have := bcnt_at (n := n) (show b < n by omega) e; omega
set_option maxRecDepth 4000 in
theorem c_shIn {X : zX} {mu : zmu} {nu : znu} {p : PT} {b : Nat} (hp : PV p) {R : Nat → Nat} (hRc : ∀ j, j < pb p → mu 49 j = nI (R j)) (hR20 : ∀ j, R j < 2 ^ 20) {c s : Nat} (hc : c < 20) {d : Nat} {Q : zq} (kk : zJ X M_X5_sixtiethsShared d 0 0 86 [.ref 46, .ref 10, .int (nI b), .int (nI (pb p)), .int (nI s), .int (nI c), .int (nI (shk R (pb p) c)), .int (nI (pb p))] [] 86 (zEE (mu) (nu)) (zlift (Q))) : ∀ n i , i + n = pb p → zJ X M_X5_sixtiethsShared d 0 0 57 [.ref 46, .ref 10, .int (nI b), .int (nI (pb p)), .int (nI s), .int (nI c), .int (nI (shk R i c)), .int (nI i)] [] 86 (zEE (mu) (nu)) (zlift (Q)) := by
  intro n
  induction n with
  | zero =>
    intro i  hi
    have h5 := hp.2.2.2.2.2.1
    obtain rfl : i = pb p := by omega
    refine z_iload dX5_sixtiethsShared_57 rfl ?_
    refine z_iload_n dX5_sixtiethsShared_59 rfl ?_
    refine zn_icmp_ge (tgt := 86) dX5_sixtiethsShared_60 (by decide) (by omega) (by omega) (fun hc60 => ?_) (fun hc60 => by omega)
    exact kk
  | succ n ih =>
    intro i  hi
    have h5 := hp.2.2.2.2.2.1
    refine z_iload dX5_sixtiethsShared_57 rfl ?_
    refine z_iload_n dX5_sixtiethsShared_59 rfl ?_
    refine zn_icmp_ge (tgt := 86) dX5_sixtiethsShared_60 (by decide) (by omega) (by omega) (fun hc60 => by omega) (fun hc60 => ?_)
    refine z_iload dX5_sixtiethsShared_63 rfl ?_
    refine z_aload_n dX5_sixtiethsShared_65 rfl ?_
    refine y_getR dX5_sixtiethsShared_66 lf_X5_18 rfl rfl ?_
    refine z_iload dX5_sixtiethsShared_69 rfl ?_
    refine y_ialde dX5_sixtiethsShared_71 rfl (by decide) (by omega) (hRc i (by omega)) ?_
    refine z_iload dX5_sixtiethsShared_72 rfl ?_
    refine zn_ishr dX5_sixtiethsShared_74 (by omega) (by have := hR20 i; omega) ?_
    refine z_iconst (v := nI 1) dX5_sixtiethsShared_75 rfl ?_
    refine zn_iand dX5_sixtiethsShared_76 ?_
    rw [bit1]
    refine zn_iadd dX5_sixtiethsShared_77 ?_
    rw [show shk R i c + (if (R i).testBit c = true then 1 else 0) = shk R (i + 1) c from rfl]
    refine z_istore6 dX5_sixtiethsShared_78 rfl ?_
    refine zn_iinc7 dX5_sixtiethsShared_80 rfl ?_
    refine z_goto (tgt := 57) dX5_sixtiethsShared_83 (by decide) ?_
    exact ih (i + 1) (by omega)
set_option maxRecDepth 4000 in
theorem c_shOut {X : zX} {mu : zmu} {nu : znu} {p : PT} {b : Nat} (hp : PV p) (hb : b < pb p) {R : Nat → Nat} (hRc : ∀ j, j < pb p → mu 49 j = nI (R j)) (hR20 : ∀ j, R j < 2 ^ 20) {d : Nat} : ∀ n i , i + n = 20 → zJ X M_X5_sixtiethsShared d 0 0 44 [.ref 46, .ref 10, .int (nI b), .int (nI (pb p)), .int (nI (shs R (pb p) b i)), .int (nI i), zu, zu] [] 86 (zEE (mu) (nu)) (zlift (zex (some (.int (nI (shs R (pb p) b 20)))) mu nu)) := by
  intro n
  induction n with
  | zero =>
    intro i  hi
    have h5 := hp.2.2.2.2.2.1
    have hb5 : b < 5 := by omega
    obtain rfl : i = 20 := by omega
    refine z_iload dX5_sixtiethsShared_44 rfl ?_
    refine z_bipush (v := nI 20) dX5_sixtiethsShared_46 rfl ?_
    refine zn_icmp_ge (tgt := 121) dX5_sixtiethsShared_48 (by decide) (by omega) (by omega) (fun hc48 => ?_) (fun hc48 => by omega)
    refine z_iload dX5_sixtiethsShared_121 rfl ?_
    exact y_ireturn dX5_sixtiethsShared_123 rfl ⟨rfl, rfl, rfl⟩
  | succ n ih =>
    intro i  hi
    have h5 := hp.2.2.2.2.2.1
    have hb5 : b < 5 := by omega
    refine z_iload dX5_sixtiethsShared_44 rfl ?_
    refine z_bipush (v := nI 20) dX5_sixtiethsShared_46 rfl ?_
    refine zn_icmp_ge (tgt := 121) dX5_sixtiethsShared_48 (by decide) (by omega) (by omega) (fun hc48 => by omega) (fun hc48 => ?_)
    refine z_iconst (v := nI 0) dX5_sixtiethsShared_51 rfl ?_
    refine z_istore6 dX5_sixtiethsShared_52 rfl ?_
    refine z_iconst (v := nI 0) dX5_sixtiethsShared_54 rfl ?_
    refine z_istore7 dX5_sixtiethsShared_55 rfl ?_
    refine c_shIn hp hRc hR20 (c := i) (s := shs R (pb p) b i) (by omega) ?_ (pb p) 0 (by omega)
    have hk5 := bcnt_le (fun j => (R j).testBit i) (pb p)
    have hk : shk R (pb p) i ≤ 5 := by unfold shk; omega
    refine z_iload dX5_sixtiethsShared_86 rfl ?_
    refine zn_if_le (tgt := 115) dX5_sixtiethsShared_88 (by decide) (by omega) (fun hc88 => ?_) (fun hc88 => ?_)
    · have e : (R b).testBit i = false := by
        cases h : (R b).testBit i with
        | false => rfl
        | true =>
          have : 0 < shk R (pb p) i := bcnt_at (f := fun j => (R j).testBit i) hb h
          omega
      refine zn_iinc5 dX5_sixtiethsShared_115 rfl ?_
      refine z_goto (tgt := 44) dX5_sixtiethsShared_118 (by decide) ?_
      have k := ih (i + 1) (by omega)
      rw [show shs R (pb p) b (i + 1) = shs R (pb p) b i by simp [shs, e]] at k
      exact z_sub k ⟨Or.inr rfl, Or.inr rfl, Or.inr rfl, Or.inr rfl, Or.inr rfl, Or.inr rfl, Or.inl rfl, Or.inl rfl, trivial⟩
    · refine z_aload_n dX5_sixtiethsShared_91 rfl ?_
      refine y_getR dX5_sixtiethsShared_92 lf_X5_18 rfl rfl ?_
      refine z_iload_n dX5_sixtiethsShared_95 rfl ?_
      refine y_ialde dX5_sixtiethsShared_96 rfl (by decide) (by omega) (hRc b hb) ?_
      refine z_iload dX5_sixtiethsShared_97 rfl ?_
      refine zn_ishr dX5_sixtiethsShared_99 (by omega) (by have := hR20 b; omega) ?_
      refine z_iconst (v := nI 1) dX5_sixtiethsShared_100 rfl ?_
      refine zn_iand dX5_sixtiethsShared_101 ?_
      rw [bit1]
      refine zn_if_eq (tgt := 115) dX5_sixtiethsShared_102 (by decide) (by split <;> omega) (fun hc102 => ?_) (fun hc102 => ?_)
      · have e : (R b).testBit i = false := by cases h : (R b).testBit i <;> simp_all
        refine zn_iinc5 dX5_sixtiethsShared_115 rfl ?_
        refine z_goto (tgt := 44) dX5_sixtiethsShared_118 (by decide) ?_
        have k := ih (i + 1) (by omega)
        rw [show shs R (pb p) b (i + 1) = shs R (pb p) b i by simp [shs, e]] at k
        exact z_sub k ⟨Or.inr rfl, Or.inr rfl, Or.inr rfl, Or.inr rfl, Or.inr rfl, Or.inr rfl, Or.inl rfl, Or.inl rfl, trivial⟩
      · have e : (R b).testBit i = true := by cases h : (R b).testBit i <;> simp_all
        refine z_iload dX5_sixtiethsShared_105 rfl ?_
        refine z_bipush (v := nI 60) dX5_sixtiethsShared_107 rfl ?_
        refine z_iload dX5_sixtiethsShared_109 rfl ?_
        refine zn_idiv dX5_sixtiethsShared_111 (by omega) (by omega) (by omega) ?_
        refine zn_iadd dX5_sixtiethsShared_112 ?_
        refine z_istore4 dX5_sixtiethsShared_113 rfl ?_
        refine zn_iinc5 dX5_sixtiethsShared_115 rfl ?_
        refine z_goto (tgt := 44) dX5_sixtiethsShared_118 (by decide) ?_
        have k := ih (i + 1) (by omega)
        rw [show shs R (pb p) b (i + 1) = shs R (pb p) b i + 60 / shk R (pb p) i by simp [shs, e]] at k
        exact z_sub k ⟨Or.inr rfl, Or.inr rfl, Or.inr rfl, Or.inr rfl, Or.inr rfl, Or.inr rfl, Or.inl rfl, Or.inl rfl, trivial⟩
set_option maxRecDepth 4000 in
theorem c_shGo {X : zX} {mu : zmu} {nu : znu} {p : PT} {P : Nat → Nat} {cut b : Nat} (hp : PV p) (hP : PFc p mu) (hS : SFc p P cut 10 mu) (hV : SV p P cut) (hb : b < pb p) (d : Nat) : ∀ n i mu1, i + n = pb p → SRH mu1 → (∀ a, a ≠ 46 → a ≠ 47 → a ≠ 48 → a ≠ 49 → mu1 a = mu a) → (∀ j, j < i → mu1 49 j = nI (rch p cut j (P j) 2)) → zJ X M_X5_sixtiethsShared (d + 5) 0 0 11 [.ref 46, .ref 10, .int (nI b), .int (nI (pb p)), .int (nI i), zu, zu, zu] [] 86 (zEE (mu1) (nu)) (zlift (fun r mu2 nu2 => r = some (.int (nI (shs (fun j => rch p cut j (P j) 2) (pb p) b 20))) ∧ nu2 = nu ∧ SRH mu2 ∧ ∀ a, a ≠ 46 → a ≠ 47 → a ≠ 48 → a ≠ 49 → mu2 a = mu a)) := by
  intro n
  induction n with
  | zero =>
    intro i mu1 hi
    have h5 := hp.2.2.2.2.2.1
    intro hR ho hr
    obtain rfl : i = pb p := by omega
    refine z_iload dX5_sixtiethsShared_11 rfl ?_
    refine z_iload_n dX5_sixtiethsShared_13 rfl ?_
    refine zn_icmp_ge (tgt := 38) dX5_sixtiethsShared_14 (by decide) (by omega) (by omega) (fun hc14 => ?_) (fun hc14 => by omega)
    refine z_iconst (v := nI 0) dX5_sixtiethsShared_38 rfl ?_
    refine z_istore4 dX5_sixtiethsShared_39 rfl ?_
    refine z_iconst (v := nI 0) dX5_sixtiethsShared_41 rfl ?_
    refine z_istore5 dX5_sixtiethsShared_42 rfl ?_
    refine zJ_mono (c_shOut (mu := mu1) (R := fun j => rch p cut j (P j) 2) hp hb hr (fun j => rch_lt _ _ _ _ _) 20 0 (by omega)) ?_
    rintro r mu2 nu2 ⟨rfl, rfl, rfl⟩
    exact ⟨rfl, rfl, hR, ho⟩
  | succ n ih =>
    intro i mu1 hi
    have h5 := hp.2.2.2.2.2.1
    intro hR ho hr
    refine z_iload dX5_sixtiethsShared_11 rfl ?_
    refine z_iload_n dX5_sixtiethsShared_13 rfl ?_
    refine zn_icmp_ge (tgt := 38) dX5_sixtiethsShared_14 (by decide) (by omega) (by omega) (fun hc14 => by omega) (fun hc14 => ?_)
    refine z_aload_n dX5_sixtiethsShared_17 rfl ?_
    refine y_getR dX5_sixtiethsShared_18 lf_X5_18 rfl rfl ?_
    refine z_iload dX5_sixtiethsShared_21 rfl ?_
    refine z_aload_n dX5_sixtiethsShared_23 rfl ?_
    refine z_aload_n dX5_sixtiethsShared_24 rfl ?_
    refine z_iload dX5_sixtiethsShared_25 rfl ?_
    refine z_iconst (v := nI 2) dX5_sixtiethsShared_27 rfl ?_
    refine y_callV3 (M' := M_X5_cellsWithin) dX5_sixtiethsShared_28 lm_X5_61 cv_X5_cellsWithin rfl (Nat.le_of_ble_eq_true rfl) (Nat.le_of_ble_eq_true rfl) rfl (c_cellsWithin hp (PFc_eq hP (fun a h1 h2 => ho a (by omega) (by omega) (by omega) (by omega))) (SFc_eq hS (ho 10 (by decide) (by decide) (by decide) (by decide)) (ho 11 (by decide) (by decide) (by decide) (by decide))) hV (b := i) (by omega) (n := 2) (by decide) hR _) (fun r mu2 nu2 hq => ?_)
    obtain ⟨rfl, rfl, hR2, ho2⟩ := hq
    refine y_iast dX5_sixtiethsShared_31 rfl (by decide) (by omega) ?_
    refine zn_iinc4 dX5_sixtiethsShared_32 rfl ?_
    refine z_goto (tgt := 11) dX5_sixtiethsShared_35 (by decide) ?_
    refine ih (i + 1) _ (by omega) (SRH_eq hR2 (fun z h1 h2 => u2_rowa (by omega))) (fun a h1 h2 h3 h4 => by rw [u2_rowa h4, ho2 a h1 h2 h3, ho a h1 h2 h3 h4]) (fun j hj => ?_)
    by_cases hji : j = i
    · rw [hji, u2_s]
    · rw [u2_k hji, ho2 49 (by decide) (by decide) (by decide)]; exact hr j (by omega)
set_option maxRecDepth 4000 in
theorem c_sixtieths {X : zX} {mu : zmu} {nu : znu} {p : PT} {P : Nat → Nat} {cut b : Nat} (hp : PV p) (hP : PFc p mu) (hS : SFc p P cut 10 mu) (hV : SV p P cut) (hb : b < pb p) (hR : SRH mu) (d : Nat) : zJ X M_X5_sixtiethsShared (d + 5) 0 0 0 [.ref 46, .ref 10, .int (nI b), zu, zu, zu, zu, zu] [] 86 (zEE (mu) (nu)) (zlift (fun r mu2 nu2 => r = some (.int (nI (shs (fun j => rch p cut j (P j) 2) (pb p) b 20))) ∧ nu2 = nu ∧ SRH mu2 ∧ ∀ a, a ≠ 46 → a ≠ 47 → a ≠ 48 → a ≠ 49 → mu2 a = mu a)) := by
  refine z_aload_n dX5_sixtiethsShared_0 rfl ?_
  refine y_getR dX5_sixtiethsShared_1 lf_X5_52 rfl rfl ?_
  refine y_getIe dX5_sixtiethsShared_4 lf_X5_56 rfl rfl hP.2.2.2.2.1 ?_
  refine z_istore3 dX5_sixtiethsShared_7 rfl ?_
  refine z_iconst (v := nI 0) dX5_sixtiethsShared_8 rfl ?_
  refine z_istore4 dX5_sixtiethsShared_9 rfl ?_
  exact c_shGo hp hP hS hV hb d (pb p) 0 mu (by omega) hR (fun _ _ _ _ _ => rfl) (fun j hj => absurd hj (Nat.not_lt_zero _))
def shA (A : AS) (b : Nat) : Nat := shs (fun j => rch (aP A) (aN A).2 j ((aN A).1 j) 2) (pb (aP A)) b 20
def f_share (A : AS) (x : Int32) (u : Bool) : Int32 × AS := (if inr x (pb (aP A)) = true then nI (frc (shA A (ix x)) 60 u) else -1, A)
set_option maxRecDepth 4000 in
theorem k_share {X : zX} {mu : zmu} {nu : znu} {A : AS} (hA : AV A) (hC : CR A mu nu) (x : Int32) (u : Bool) (d : Nat) : zJ X M_X8_share (d + 10) 0 0 0 [.ref 0, .int x, .int (b2i u)] [] 86 (zEE (mu) (nu)) (zlift (QC (f_share A x u) mu nu)) := by
  obtain ⟨hP, hS, hR, hK, hE, hT, hSR, hD⟩ := id hC
  have hp := hA.1
  have hV := hA.2.1
  have h20 := hA.n
  have h5 := hA.b
  refine z_aload_n dX8_share_0 rfl ?_
  refine y_getR dX8_share_1 lf_X8_19 rfl rfl ?_
  refine z_iload_n dX8_share_4 rfl ?_
  refine y_callV1x (M' := M_X3_hasBoy) dX8_share_5 lm_X8_139 cv_X3_hasBoy rfl (Nat.le_of_ble_eq_true rfl) (Nat.le_of_ble_eq_true rfl) rfl (c_hasBoy hp hP x _) ?_
  refine zb_if_ne (tgt := 13) dX8_share_8 (by decide) (fun hc8 => ?_) (fun hc8 => ?_)
  · have g : inr x (pb (aP A)) = true := hc8
    obtain ⟨b, hb, rfl⟩ := inr_t (show inr x (pb (aP A)) = true from g) (by omega)
    refine z_aload_n dX8_share_13 rfl ?_
    refine y_getR dX8_share_14 lf_X8_53 rfl rfl ?_
    refine z_aload_n dX8_share_17 rfl ?_
    refine y_getR dX8_share_18 lf_X8_28 rfl rfl ?_
    refine z_iload_n dX8_share_21 rfl ?_
    refine y_callV2 (M' := M_X5_sixtiethsShared) dX8_share_22 lm_X8_230 cv_X5_sixtiethsShared rfl (Nat.le_of_ble_eq_true rfl) (Nat.le_of_ble_eq_true rfl) rfl (c_sixtieths hp hP hS hV hb hSR _) (fun r mu1 nu1 hq => ?_)
    obtain ⟨rfl, rfl, hs2, ho⟩ := hq
    refine z_bipush (v := nI 60) dX8_share_25 rfl ?_
    refine z_iload_n dX8_share_27 rfl ?_
    refine y_callS3x (M' := M_X8_told) dX8_share_28 lm_X8_233 cs_X8_told (Nat.le_of_ble_eq_true rfl) (Nat.le_of_ble_eq_true rfl) rfl (c_told (by have := shs_le (fun j => rch (aP A) (aN A).2 j ((aN A).1 j) 2) (pb (aP A)) b 20; omega) (by decide) (by decide) u _) ?_
    exact y_ireturn dX8_share_31 rfl (QC_of (A' := A) (by simp [f_share, g, ix_nI (show b < 2 ^ 31 by omega), shA]) (CR_scr hC (fun a _ hs => ho a (by unfold scr at hs; omega) (by unfold scr at hs; omega) (by unfold scr at hs; omega) (by unfold scr at hs; omega)) hs2 rfl) ⟨fun z hz => ho z (by omega) (by omega) (by omega) (by omega), rfl⟩)
  · have g : inr x (pb (aP A)) = false := hc8
    refine z_iconst (v := -1) dX8_share_11 rfl ?_
    exact y_ireturn dX8_share_12 rfl (QC_rf hC (by simp [f_share, g]))
def iS (x : Int32) : Bool × Nat := if x < 0 then (true, ix (0 - x)) else (false, ix x)
theorem i9 {x : Int32} (h : -4 ≤ x ∧ x ≤ nI 4) : x = -4 ∨ x = -3 ∨ x = -2 ∨ x = -1 ∨ x = 0 ∨ x = 1 ∨ x = 2 ∨ x = 3 ∨ x = 4 := by
  obtain ⟨h1, h2⟩ := h
  rw [Int32.le_iff_toInt_le] at h1 h2
  rw [show (-4 : Int32).toInt = -4 by decide] at h1
  rw [show (nI 4).toInt = 4 by decide] at h2
  have e : x = Int32.ofInt x.toInt := by simp
  generalize x.toInt = z at *
  subst e
  obtain rfl | rfl | rfl | rfl | rfl | rfl | rfl | rfl | rfl : z = -4 ∨ z = -3 ∨ z = -2 ∨ z = -1 ∨ z = 0 ∨ z = 1 ∨ z = 2 ∨ z = 3 ∨ z = 4 := by omega
  all_goals decide
theorem iS_ok {x : Int32} (h : -4 ≤ x ∧ x ≤ nI 4) : sI (iS x) = x ∧ sV (iS x) := by
  unfold sV
  rcases i9 h with rfl | rfl | rfl | rfl | rfl | rfl | rfl | rfl | rfl <;> decide
def in9 (x : Int32) : Bool := decide (-4 ≤ x ∧ x ≤ nI 4)
def okS (x y k : Int32) : Bool := in9 x && (in9 y && inr k 4)
def seeS (g : SG) (x y k : Int32) : SG := (g.1 + 1, (fun i => if i = g.1 then iS x else g.2.1 i), (fun i => if i = g.1 then iS y else g.2.2.1 i), (fun i => if i = g.1 then ix k else g.2.2.2 i))
def f_see (A : AS) (x y k : Int32) : Int32 × AS := if okS x y k = true then (if (aS A).1 < 6 then (nI ((aS A).1 + 1), setS A (seeS (aS A) x y k)) else (-4, A)) else (-2, A)
def f_unsee (A : AS) : Int32 × AS := (nI (aS A).1, setS A (0, (aS A).2))
def f_stands (A : AS) : Int32 × AS := (nI (bset (sof (aP A) (aN A).2 (aS A).2.1 (aS A).2.2.1 (aS A).2.2.2 (aS A).1) (an A)), A)
theorem CR_see {A : AS} {mu mu1 : zmu} {nu : znu} {g : SG} (h : CR A mu nu) (e : ∀ x, x < 52 ∨ 56 ≤ x → mu1 x = mu x) (hs : SEc g.2.1 g.2.2.1 g.2.2.2 g.1 mu1) : CR (setS A g) mu1 nu := by
  obtain ⟨h1, h2, h3, h4, h5, h6, h7, h8⟩ := h
  exact ⟨PFc_eq h1 (fun x g1 g2 => e x (by omega)), SFc_eq h2 (e 10 (by decide)) (e 11 (by decide)), RG_eq h3 (fun x g1 g2 => e x (by omega)), KP_eq h4 (fun x g => e x (by omega)), hs, TFc_eq h6 (e 1 (by decide)) (e 2 (by decide)), SRH_eq h7 (fun x g1 g2 => e x (by omega)), h8⟩
theorem seeM_o {mu : zmu} {ct : Nat} {x y k : Int32} {a : Nat} (h : a < 52 ∨ 56 ≤ a) : seeM mu ct x y k a = mu a := by
  unfold seeM; rw [u2_rowa (by omega), u2_rowa (by omega), u2_rowa (by omega), u2_rowa (by omega)]
theorem SEc_see {g : SG} {mu : zmu} {x y : Int32} {k : Nat} (h : SEc g.2.1 g.2.2.1 g.2.2.2 g.1 mu) (hx : in9 x = true) (hy : in9 y = true) (hk : k < 4) : SEc (seeS g x y (nI k)).2.1 (seeS g x y (nI k)).2.2.1 (seeS g x y (nI k)).2.2.2 (seeS g x y (nI k)).1 (seeM mu g.1 x y (nI k)) := by
  refine ⟨by unfold seeM; rw [u2_s]; rfl, fun i hi => ?_⟩
  have hi : i < g.1 + 1 := hi
  have e1 := (iS_ok (of_decide_eq_true hx)).1
  have e2 := (iS_ok (of_decide_eq_true hy)).1
  show seeM mu g.1 x y (nI k) 53 i = sI (if i = g.1 then iS x else g.2.1 i) ∧ seeM mu g.1 x y (nI k) 54 i = sI (if i = g.1 then iS y else g.2.2.1 i) ∧ seeM mu g.1 x y (nI k) 55 i = nI (if i = g.1 then ix (nI k) else g.2.2.2 i)
  have f3 : seeM mu g.1 x y (nI k) 53 i = u2 mu 53 g.1 x 53 i := by unfold seeM; rw [u2_a (by decide), u2_a (by decide), u2_a (by decide)]
  have f4 : seeM mu g.1 x y (nI k) 54 i = u2 mu 54 g.1 y 54 i := by unfold seeM; rw [u2_a (by decide), u2_a (by decide)]; unfold u2; simp
  have f5 : seeM mu g.1 x y (nI k) 55 i = u2 mu 55 g.1 (nI k) 55 i := by unfold seeM; rw [u2_a (by decide)]; unfold u2; simp
  rw [f3, f4, f5, ix_nI (by omega)]
  by_cases hg : i = g.1
  · rw [if_pos hg, if_pos hg, if_pos hg, hg, u2_s, u2_s, u2_s, e1, e2]; exact ⟨rfl, rfl, rfl⟩
  · rw [if_neg hg, if_neg hg, if_neg hg, u2_k hg, u2_k hg, u2_k hg]; exact h.2 i (by omega)
set_option maxRecDepth 4000 in
theorem k_see {X : zX} {mu : zmu} {nu : znu} {A : AS} (hA : AV A) (hC : CR A mu nu) (x y k : Int32) (d : Nat) : zJ X M_X8_see (d + 10) 0 0 0 [.ref 0, .int x, .int y, .int k] [] 86 (zEE (mu) (nu)) (zlift (QC (f_see A x y k) mu nu)) := by
  obtain ⟨hP, hS, hR, hK, hE, hT, hSR, hD⟩ := id hC
  have hp := hA.1
  have hV := hA.2.1
  have h20 := hA.n
  have h5 := hA.b
  refine z_iload_n dX8_see_0 rfl ?_
  refine y_callS1x (M' := M_X8_inSight) dX8_see_1 lm_X8_236 cs_X8_inSight (Nat.le_of_ble_eq_true rfl) (Nat.le_of_ble_eq_true rfl) rfl (c_inSight x _) ?_
  refine zb_if_eq (tgt := 23) dX8_see_4 (by decide) (fun hc4 => ?_) (fun hc4 => ?_)
  · have g1 : in9 x = false := hc4
    have g : okS x y k = false := by simp [okS, g1]
    refine z_bipush (v := -2) dX8_see_23 rfl ?_
    exact y_ireturn dX8_see_25 rfl (QC_rf hC (by simp [f_see, g]))
  · refine z_iload_n dX8_see_7 rfl ?_
    refine y_callS1x (M' := M_X8_inSight) dX8_see_8 lm_X8_236 cs_X8_inSight (Nat.le_of_ble_eq_true rfl) (Nat.le_of_ble_eq_true rfl) rfl (c_inSight y _) ?_
    refine zb_if_eq (tgt := 23) dX8_see_11 (by decide) (fun hc11 => ?_) (fun hc11 => ?_)
    · have g1 : in9 y = false := hc11
      have g : okS x y k = false := by simp [okS, g1]
      refine z_bipush (v := -2) dX8_see_23 rfl ?_
      exact y_ireturn dX8_see_25 rfl (QC_rf hC (by simp [f_see, g]))
    · refine z_iload_n dX8_see_14 rfl ?_
      refine z_if_lt (tgt := 23) dX8_see_15 (by decide) (fun hc15 => ?_) (fun hc15 => ?_)
      · have g : okS x y k = false := by simp [okS, inr_neg hc15]
        refine z_bipush (v := -2) dX8_see_23 rfl ?_
        exact y_ireturn dX8_see_25 rfl (QC_rf hC (by simp [f_see, g]))
      · refine z_iload_n dX8_see_18 rfl ?_
        refine z_iconst (v := nI 4) dX8_see_19 rfl ?_
        refine z_icmp_lt (tgt := 26) dX8_see_20 (by decide) (fun hc20 => ?_) (fun hc20 => ?_)
        · have g3 := inr_in hc15 hc20
          have g1 : in9 x = true := hc4
          have g2 : in9 y = true := hc11
          have g : okS x y k = true := by simp [okS, g1, g2, g3]
          obtain ⟨t, ht, rfl⟩ := inr_t g3 (by decide)
          refine z_aload_n dX8_see_26 rfl ?_
          refine y_getR dX8_see_27 lf_X8_67 rfl rfl ?_
          refine z_iload_n dX8_see_30 rfl ?_
          refine z_iload_n dX8_see_31 rfl ?_
          refine z_iload_n dX8_see_32 rfl ?_
          refine y_callV3x (M' := M_X6_add) dX8_see_33 lm_X8_239 cv_X6_add rfl (Nat.le_of_ble_eq_true rfl) (Nat.le_of_ble_eq_true rfl) rfl (c_seeAdd hE.1 hA.2.2.2.2.1.1 _) ?_
          refine zb_if_eq (tgt := 49) dX8_see_36 (by decide) (fun hc36 => ?_) (fun hc36 => ?_)
          · have hl : ¬ (aS A).1 < 6 := of_decide_eq_false hc36
            rw [if_neg hl]
            refine z_bipush (v := -4) dX8_see_49 rfl ?_
            exact y_ireturn dX8_see_51 rfl (QC_rf hC (by simp [f_see, g, hl]))
          · have hl : (aS A).1 < 6 := of_decide_eq_true hc36
            rw [if_pos hl]
            refine z_aload_n dX8_see_39 rfl ?_
            refine y_getR dX8_see_40 lf_X8_67 rfl rfl ?_
            refine y_getIe dX8_see_43 lf_X8_125 rfl rfl (show seeM mu (aS A).1 x y (nI t) 52 3 = nI ((aS A).1 + 1) by unfold seeM; rw [u2_s]) ?_
            refine z_goto (tgt := 51) dX8_see_46 (by decide) ?_
            exact y_ireturn dX8_see_51 rfl (QC_of (A' := setS A (seeS (aS A) x y (nI t))) (by simp [f_see, g, hl]) (CR_see hC (fun z hz => seeM_o hz) (SEc_see hE g1 g2 ht)) ⟨fun z hz => seeM_o (by omega), rfl⟩)
        · have g : okS x y k = false := by simp [okS, inr_ge hc20]
          refine z_bipush (v := -2) dX8_see_23 rfl ?_
          exact y_ireturn dX8_see_25 rfl (QC_rf hC (by simp [f_see, g]))
set_option maxRecDepth 4000 in
theorem k_unsee {X : zX} {mu : zmu} {nu : znu} {A : AS} (hA : AV A) (hC : CR A mu nu) (d : Nat) : zJ X M_X8_unsee (d + 10) 0 0 0 [.ref 0, zu] [] 86 (zEE (mu) (nu)) (zlift (QC (f_unsee A) mu nu)) := by
  obtain ⟨hP, hS, hR, hK, hE, hT, hSR, hD⟩ := id hC
  have hp := hA.1
  have hV := hA.2.1
  have h20 := hA.n
  have h5 := hA.b
  refine z_aload_n dX8_unsee_0 rfl ?_
  refine y_getR dX8_unsee_1 lf_X8_67 rfl rfl ?_
  refine y_getIe dX8_unsee_4 lf_X8_125 rfl rfl hE.1 ?_
  refine z_istore1 dX8_unsee_7 rfl ?_
  refine z_aload_n dX8_unsee_8 rfl ?_
  refine y_getR dX8_unsee_9 lf_X8_67 rfl rfl ?_
  refine z_iconst (v := nI 0) dX8_unsee_12 rfl ?_
  refine y_putI dX8_unsee_13 lp_X8_125 rfl rfl ?_
  refine z_iload_n dX8_unsee_16 rfl ?_
  exact y_ireturn dX8_unsee_17 rfl (QC_of (A' := setS A (0, (aS A).2)) rfl (CR_see hC (fun z hz => u2_rowa (by omega)) ⟨u2_s, fun i hi => absurd hi (Nat.not_lt_zero _)⟩) ⟨fun z hz => u2_rowa (by omega), rfl⟩)
set_option maxRecDepth 4000 in
theorem k_stands_l {X : zX} {mu : zmu} {nu : znu} {A : AS} (hA : AV A) (hC : CR A mu nu) (d : Nat) : ∀ n i , i + n = an A → zJ X M_X8_stands (d + 10) 0 0 4 [.ref 0, .int (nI (bset (sof (aP A) (aN A).2 (aS A).2.1 (aS A).2.2.1 (aS A).2.2.2 (aS A).1) i)), .int (nI i)] [] 86 (zEE (mu) (nu)) (zlift (QC (f_stands A) mu nu)) := by
  intro n
  induction n with
  | zero =>
    intro i  hi
    obtain ⟨hP, hS, hR, hK, hE, hT, hSR, hD⟩ := id hC
    have hp := hA.1
    have hV := hA.2.1
    have h20 := hA.n
    have h5 := hA.b
    obtain rfl : i = an A := by omega
    refine z_iload_n dX8_stands_4 rfl ?_
    refine z_aload_n dX8_stands_5 rfl ?_
    refine y_getR dX8_stands_6 lf_X8_19 rfl rfl ?_
    refine y_getIe dX8_stands_9 lf_X8_204 rfl rfl hP.2.2.2.1 ?_
    refine zn_icmp_ge (tgt := 42) dX8_stands_12 (by decide) (by omega) (by have : pw (aP A) * ph (aP A) ≤ 20 := h20; omega) (fun hc12 => ?_) (fun hc12 => by exact absurd hc12 (Nat.lt_irrefl _))
    refine z_iload_n dX8_stands_42 rfl ?_
    exact y_ireturn dX8_stands_43 rfl (QC_rf hC rfl)
  | succ n ih =>
    intro i  hi
    obtain ⟨hP, hS, hR, hK, hE, hT, hSR, hD⟩ := id hC
    have hp := hA.1
    have hV := hA.2.1
    have h20 := hA.n
    have h5 := hA.b
    refine z_iload_n dX8_stands_4 rfl ?_
    refine z_aload_n dX8_stands_5 rfl ?_
    refine y_getR dX8_stands_6 lf_X8_19 rfl rfl ?_
    refine y_getIe dX8_stands_9 lf_X8_204 rfl rfl hP.2.2.2.1 ?_
    refine zn_icmp_ge (tgt := 42) dX8_stands_12 (by decide) (by omega) (by have : pw (aP A) * ph (aP A) ≤ 20 := h20; omega) (fun hc12 => by have : an A ≤ i := hc12; omega) (fun hc12 => ?_)
    refine z_aload_n dX8_stands_15 rfl ?_
    refine y_getR dX8_stands_16 lf_X8_67 rfl rfl ?_
    refine z_aload_n dX8_stands_19 rfl ?_
    refine y_getR dX8_stands_20 lf_X8_28 rfl rfl ?_
    refine z_iload_n dX8_stands_23 rfl ?_
    refine y_callV2x (M' := M_X6_isSoFrom) dX8_stands_24 lm_X8_241 cv_X6_isSoFrom rfl (Nat.le_of_ble_eq_true rfl) (Nat.le_of_ble_eq_true rfl) rfl (c_isSoFrom hp hP hS.2 hV.2 hE hA.2.2.2.2.1 (show i < pw (aP A) * ph (aP A) from hc12) _) ?_
    refine zb_if_eq (tgt := 36) dX8_stands_27 (by decide) (fun hc27 => ?_) (fun hc27 => ?_)
    · refine zn_iinc2 dX8_stands_36 rfl ?_
      refine z_goto (tgt := 4) dX8_stands_39 (by decide) ?_
      rw [bset_f hc27]; exact ih (i + 1) (by omega)
    · refine z_iload_n dX8_stands_30 rfl ?_
      refine z_iconst (v := nI 1) dX8_stands_31 rfl ?_
      refine z_iload_n dX8_stands_32 rfl ?_
      refine zn_ishl dX8_stands_33 (by omega) (by have : 1 * 2 ^ i ≤ 1 * 2 ^ 20 := Nat.mul_le_mul_left 1 (Nat.pow_le_pow_right (by decide) (by omega)); omega) ?_
      refine zn_ior dX8_stands_34 ?_
      refine z_istore1 dX8_stands_35 rfl ?_
      refine zn_iinc2 dX8_stands_36 rfl ?_
      refine z_goto (tgt := 4) dX8_stands_39 (by decide) ?_
      rw [bset_t hc27]; exact ih (i + 1) (by omega)
set_option maxRecDepth 4000 in
theorem k_stands {X : zX} {mu : zmu} {nu : znu} {A : AS} (hA : AV A) (hC : CR A mu nu) (d : Nat) : zJ X M_X8_stands (d + 10) 0 0 0 [.ref 0, zu, zu] [] 86 (zEE (mu) (nu)) (zlift (QC (f_stands A) mu nu)) := by
  refine z_iconst (v := nI 0) dX8_stands_0 rfl ?_
  refine z_istore1 dX8_stands_1 rfl ?_
  refine z_iconst (v := nI 0) dX8_stands_2 rfl ?_
  refine z_istore2 dX8_stands_3 rfl ?_
  exact k_stands_l hA hC d (an A) 0 (by omega)
