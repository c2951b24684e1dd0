/-! the reference reads a text -/
theorem u2_id {mu : zmu} {a k : Nat} {v : Int32} (h : mu a k = v) : u2 mu a k v = mu := by
  funext b j
  unfold u2
  by_cases e : b = a
  · rw [if_pos e]
    by_cases e2 : j = k
    · rw [if_pos e2, e, e2]; exact h.symm
    · rw [if_neg e2]
  · rw [if_neg e]
theorem nI_subt {a b : Nat} (ha : a < 2 ^ 30) (hb : b < 2 ^ 30) : (nI a - nI b).toInt = (a : Int) - (b : Int) := by
  rw [Int32.toInt_sub, nI_toInt (by omega), nI_toInt (by omega)]
  exact Int.bmod_eq_of_le (by omega) (by omega)
theorem in_fr {a sg lo hi : Nat} (h1 : a < 1000) (h2 : sg < 1000) (h3 : lo < 1000) (h4 : hi < 1000) : decide ((nI lo).toInt64 ≤ (nI a - nI sg).toInt64 ∧ (nI a - nI sg).toInt64 ≤ (nI hi).toInt64) = decide (sg + lo ≤ a ∧ a ≤ sg + hi) := by
  apply Bool.eq_iff_iff.mpr
  simp only [decide_eq_true_eq, l_le, il_toInt, nI_subt (show a < 2 ^ 30 by omega) (show sg < 2 ^ 30 by omega), nI_toInt (show lo < 2 ^ 31 by omega), nI_toInt (show hi < 2 ^ 31 by omega)]
  omega
def frm (T : Nat → Nat) (len sg lo hi pl : Nat) : Option Nat := if pl < len ∧ (sg + lo ≤ T pl ∧ T pl ≤ sg + hi) then some (T pl - sg) else none
def rkd (T : Nat → Nat) (len pl : Nat) : Option Nat := if pl < len then knd (T pl) else none
def nxp (o : Option Nat) (pl : Nat) : Nat := if o.isSome = true then pl + 1 else pl
/-- the text, and how far it is read -/
def RT (T : Nat → Nat) (len pl : Nat) (mu : zmu) : Prop := TM (len, T) mu ∧ mu 66 3 = nI pl ∧ pl ≤ len ∧ len ≤ 48 ∧ (∀ i, i < 48 → T i < 256)
set_option maxRecDepth 4000 in
theorem m_from {X : zX} {mu : zmu} {nu : znu} {T : Nat → Nat} {len pl : Nat} {sg lo hi : Nat} (hR : RT T len pl mu) (h2 : sg < 1000) (h3 : lo < 1000) (h4 : hi < 1000) (d : Nat) : zJ X M_X9_from (d + 1) 0 0 0 [.ref 66, .int (nI sg), .int (nI lo), .int (nI hi)] [] 86 (zEE (mu) (nu)) (zlift (zex (some (.int (o9 (frm T len sg lo hi pl)))) (u2 mu 66 3 (nI (nxp (frm T len sg lo hi pl) pl))) nu)) := by
  obtain ⟨hT, hpl, hle, h48, h256⟩ := id hR
  have hT1 : mu 66 2 = nI len := hT.1
  refine z_aload_n dX9_from_0 rfl ?_
  refine y_getIe dX9_from_1 lf_X9_92 rfl rfl hpl ?_
  refine z_aload_n dX9_from_4 rfl ?_
  refine y_getIe dX9_from_5 lf_X9_89 rfl rfl hT1 ?_
  refine zn_icmp_eq (tgt := 33) dX9_from_8 (by decide) (by omega) (by omega) (fun hc8 => ?_) (fun hc8 => ?_)
  · refine z_bipush (v := -9) dX9_from_33 rfl ?_
    exact y_ireturn dX9_from_35 rfl (by have e : frm T len sg lo hi pl = none := (by simp [frm, hc8]); rw [e]; exact ⟨rfl, (u2_id hpl).symm, rfl⟩)
  · have hlt : pl < len := by omega
    have hTp : mu 67 pl = nI (T pl) := hT.2 pl hlt
    have h25 := h256 pl (by omega)
    refine z_aload_n dX9_from_11 rfl ?_
    refine y_getR dX9_from_12 lf_X9_7 rfl rfl ?_
    refine z_aload_n dX9_from_15 rfl ?_
    refine y_getIe dX9_from_16 lf_X9_92 rfl rfl hpl ?_
    refine y_ialde dX9_from_19 rfl (by decide) (by omega) hTp ?_
    refine z_iload_n dX9_from_20 rfl ?_
    refine z_isub dX9_from_21 ?_
    refine z_i2l dX9_from_22 ?_
    refine z_iload_n dX9_from_23 rfl ?_
    refine z_i2l dX9_from_24 ?_
    refine z_iload_n dX9_from_25 rfl ?_
    refine z_i2l dX9_from_26 ?_
    refine y_callS3x (M' := M_X9_in) dX9_from_27 lm_X9_81 cs_X9_in (Nat.le_of_ble_eq_true rfl) (Nat.le_of_ble_eq_true rfl) rfl (m_in _ _ _ _) ?_
    rw [in_fr (by omega) h2 h3 h4]
    refine zb_if_ne (tgt := 36) dX9_from_30 (by decide) (fun hc30 => ?_) (fun hc30 => ?_)
    · have hin := of_decide_eq_true hc30
      refine z_aload_n dX9_from_36 rfl ?_
      refine z_dup dX9_from_37 rfl ?_
      refine y_getIe dX9_from_38 lf_X9_92 rfl rfl hpl ?_
      refine z_iconst (v := nI 1) dX9_from_41 rfl ?_
      refine zn_iadd dX9_from_42 ?_
      refine y_putI dX9_from_43 lp_X9_92 rfl rfl ?_
      refine z_aload_n dX9_from_46 rfl ?_
      refine y_getR dX9_from_47 lf_X9_7 rfl rfl ?_
      refine z_aload_n dX9_from_50 rfl ?_
      refine y_getIe dX9_from_51 lf_X9_92 rfl rfl u2_s ?_
      refine z_iconst (v := nI 1) dX9_from_54 rfl ?_
      refine zn_isub dX9_from_55 (by omega) ?_
      rw [show pl + 1 - 1 = pl by omega]
      refine y_ialde dX9_from_56 rfl (by decide) (by omega) ((u2_a (by decide)).trans hTp) ?_
      refine z_iload_n dX9_from_57 rfl ?_
      refine zn_isub dX9_from_58 (by omega) ?_
      exact y_ireturn dX9_from_59 rfl (by have e : frm T len sg lo hi pl = some (T pl - sg) := (by simp only [frm]; rw [if_pos ⟨hlt, hin⟩]); rw [e]; exact ⟨rfl, rfl, rfl⟩)
    · refine z_bipush (v := -9) dX9_from_33 rfl ?_
      exact y_ireturn dX9_from_35 rfl (by have e : frm T len sg lo hi pl = none := (by simp only [frm]; rw [if_neg (fun g => of_decide_eq_false hc30 g.2)]); rw [e]; exact ⟨rfl, (u2_id hpl).symm, rfl⟩)
set_option maxRecDepth 4000 in
theorem m_readKind {X : zX} {mu : zmu} {nu : znu} {T : Nat → Nat} {len pl : Nat} (hR : RT T len pl mu) (d : Nat) : zJ X M_X9_readKind d 0 0 0 [.ref 66, zu, zu] [] 86 (zEE (mu) (nu)) (zlift (zex (some (.int (o9 (rkd T len pl)))) (u2 mu 66 3 (nI (nxp (rkd T len pl) pl))) nu)) := by
  obtain ⟨hT, hpl, hle, h48, h256⟩ := id hR
  have hT1 : mu 66 2 = nI len := hT.1
  refine z_aload_n dX9_readKind_0 rfl ?_
  refine y_getIe dX9_readKind_1 lf_X9_92 rfl rfl hpl ?_
  refine z_aload_n dX9_readKind_4 rfl ?_
  refine y_getIe dX9_readKind_5 lf_X9_89 rfl rfl hT1 ?_
  refine zn_icmp_ne (tgt := 14) dX9_readKind_8 (by decide) (by omega) (by omega) (fun hc8 => ?_) (fun hc8 => ?_)
  · have hlt : pl < len := by omega
    have hTp : mu 67 pl = nI (T pl) := hT.2 pl hlt
    have h25 := h256 pl (by omega)
    refine z_aload_n dX9_readKind_14 rfl ?_
    refine y_getR dX9_readKind_15 lf_X9_7 rfl rfl ?_
    refine z_aload_n dX9_readKind_18 rfl ?_
    refine y_getIe dX9_readKind_19 lf_X9_92 rfl rfl hpl ?_
    refine y_ialde dX9_readKind_22 rfl (by decide) (by omega) hTp ?_
    refine z_istore1 dX9_readKind_23 rfl ?_
    refine z_iload_n dX9_readKind_24 rfl ?_
    refine z_bipush (v := nI 108) dX9_readKind_25 rfl ?_
    refine zn_icmp_ne (tgt := 34) dX9_readKind_27 (by decide) (by omega) (by omega) (fun hc27 => ?_) (fun hc27 => ?_)
    · refine z_iload_n dX9_readKind_34 rfl ?_
      refine z_bipush (v := nI 116) dX9_readKind_35 rfl ?_
      refine zn_icmp_ne (tgt := 44) dX9_readKind_37 (by decide) (by omega) (by omega) (fun hc37 => ?_) (fun hc37 => ?_)
      · refine z_iload_n dX9_readKind_44 rfl ?_
        refine z_bipush (v := nI 98) dX9_readKind_45 rfl ?_
        refine zn_icmp_ne (tgt := 54) dX9_readKind_47 (by decide) (by omega) (by omega) (fun hc47 => ?_) (fun hc47 => ?_)
        · refine z_iload_n dX9_readKind_54 rfl ?_
          refine z_bipush (v := nI 114) dX9_readKind_55 rfl ?_
          refine zn_icmp_ne (tgt := 64) dX9_readKind_57 (by decide) (by omega) (by omega) (fun hc57 => ?_) (fun hc57 => ?_)
          · refine z_bipush (v := -9) dX9_readKind_64 rfl ?_
            refine z_istore2 dX9_readKind_66 rfl ?_
            refine z_aload_n dX9_readKind_67 rfl ?_
            refine z_dup dX9_readKind_68 rfl ?_
            refine y_getIe dX9_readKind_69 lf_X9_92 rfl rfl hpl ?_
            refine z_iload_n dX9_readKind_72 rfl ?_
            refine z_bipush (v := -9) dX9_readKind_73 rfl ?_
            refine z_icmp_ne (tgt := 82) dX9_readKind_75 (by decide) (fun hc75 => by exact absurd rfl hc75) (fun hc75 => ?_)
            refine z_iconst (v := nI 0) dX9_readKind_78 rfl ?_
            refine z_goto (tgt := 83) dX9_readKind_79 (by decide) ?_
            refine zn_iadd dX9_readKind_83 ?_
            refine y_putI dX9_readKind_84 lp_X9_92 rfl rfl ?_
            refine z_iload_n dX9_readKind_87 rfl ?_
            exact y_ireturn dX9_readKind_88 rfl (by have e : rkd T len pl = none := (by simp [rkd, hlt, knd, hc27, hc37, hc47, hc57]); rw [e]; exact ⟨rfl, rfl, rfl⟩)
          · refine z_iconst (v := nI 3) dX9_readKind_60 rfl ?_
            refine z_goto (tgt := 66) dX9_readKind_61 (by decide) ?_
            refine z_istore2 dX9_readKind_66 rfl ?_
            refine z_aload_n dX9_readKind_67 rfl ?_
            refine z_dup dX9_readKind_68 rfl ?_
            refine y_getIe dX9_readKind_69 lf_X9_92 rfl rfl hpl ?_
            refine z_iload_n dX9_readKind_72 rfl ?_
            refine z_bipush (v := -9) dX9_readKind_73 rfl ?_
            refine z_icmp_ne (tgt := 82) dX9_readKind_75 (by decide) (fun hc75 => ?_) (fun hc75 => by exact absurd hc75 (nI_m9 (by decide)))
            refine z_iconst (v := nI 1) dX9_readKind_82 rfl ?_
            refine zn_iadd dX9_readKind_83 ?_
            refine y_putI dX9_readKind_84 lp_X9_92 rfl rfl ?_
            refine z_iload_n dX9_readKind_87 rfl ?_
            exact y_ireturn dX9_readKind_88 rfl (by have e : rkd T len pl = some 3 := (by simp [rkd, hlt, knd, hc27, hc37, hc47, hc57]); rw [e]; exact ⟨rfl, rfl, rfl⟩)
        · refine z_iconst (v := nI 2) dX9_readKind_50 rfl ?_
          refine z_goto (tgt := 66) dX9_readKind_51 (by decide) ?_
          refine z_istore2 dX9_readKind_66 rfl ?_
          refine z_aload_n dX9_readKind_67 rfl ?_
          refine z_dup dX9_readKind_68 rfl ?_
          refine y_getIe dX9_readKind_69 lf_X9_92 rfl rfl hpl ?_
          refine z_iload_n dX9_readKind_72 rfl ?_
          refine z_bipush (v := -9) dX9_readKind_73 rfl ?_
          refine z_icmp_ne (tgt := 82) dX9_readKind_75 (by decide) (fun hc75 => ?_) (fun hc75 => by exact absurd hc75 (nI_m9 (by decide)))
          refine z_iconst (v := nI 1) dX9_readKind_82 rfl ?_
          refine zn_iadd dX9_readKind_83 ?_
          refine y_putI dX9_readKind_84 lp_X9_92 rfl rfl ?_
          refine z_iload_n dX9_readKind_87 rfl ?_
          exact y_ireturn dX9_readKind_88 rfl (by have e : rkd T len pl = some 2 := (by simp [rkd, hlt, knd, hc27, hc37, hc47]); rw [e]; exact ⟨rfl, rfl, rfl⟩)
      · refine z_iconst (v := nI 1) dX9_readKind_40 rfl ?_
        refine z_goto (tgt := 66) dX9_readKind_41 (by decide) ?_
        refine z_istore2 dX9_readKind_66 rfl ?_
        refine z_aload_n dX9_readKind_67 rfl ?_
        refine z_dup dX9_readKind_68 rfl ?_
        refine y_getIe dX9_readKind_69 lf_X9_92 rfl rfl hpl ?_
        refine z_iload_n dX9_readKind_72 rfl ?_
        refine z_bipush (v := -9) dX9_readKind_73 rfl ?_
        refine z_icmp_ne (tgt := 82) dX9_readKind_75 (by decide) (fun hc75 => ?_) (fun hc75 => by exact absurd hc75 (nI_m9 (by decide)))
        refine z_iconst (v := nI 1) dX9_readKind_82 rfl ?_
        refine zn_iadd dX9_readKind_83 ?_
        refine y_putI dX9_readKind_84 lp_X9_92 rfl rfl ?_
        refine z_iload_n dX9_readKind_87 rfl ?_
        exact y_ireturn dX9_readKind_88 rfl (by have e : rkd T len pl = some 1 := (by simp [rkd, hlt, knd, hc27, hc37]); rw [e]; exact ⟨rfl, rfl, rfl⟩)
    · refine z_iconst (v := nI 0) dX9_readKind_30 rfl ?_
      refine z_goto (tgt := 66) dX9_readKind_31 (by decide) ?_
      refine z_istore2 dX9_readKind_66 rfl ?_
      refine z_aload_n dX9_readKind_67 rfl ?_
      refine z_dup dX9_readKind_68 rfl ?_
      refine y_getIe dX9_readKind_69 lf_X9_92 rfl rfl hpl ?_
      refine z_iload_n dX9_readKind_72 rfl ?_
      refine z_bipush (v := -9) dX9_readKind_73 rfl ?_
      refine z_icmp_ne (tgt := 82) dX9_readKind_75 (by decide) (fun hc75 => ?_) (fun hc75 => by exact absurd hc75 (nI_m9 (by decide)))
      refine z_iconst (v := nI 1) dX9_readKind_82 rfl ?_
      refine zn_iadd dX9_readKind_83 ?_
      refine y_putI dX9_readKind_84 lp_X9_92 rfl rfl ?_
      refine z_iload_n dX9_readKind_87 rfl ?_
      exact y_ireturn dX9_readKind_88 rfl (by have e : rkd T len pl = some 0 := (by simp [rkd, hlt, knd, hc27]); rw [e]; exact ⟨rfl, rfl, rfl⟩)
  · refine z_bipush (v := -9) dX9_readKind_11 rfl ?_
    exact y_ireturn dX9_readKind_13 rfl (by have e : rkd T len pl = none := (by simp [rkd, hc8]); rw [e]; exact ⟨rfl, (u2_id hpl).symm, rfl⟩)
/-- the figures and cells, as read -/
def RPf (T : Nat → Nat) (n : Nat) (mu : zmu) : Prop := mu 66 11 = nI (T 1 - 48) ∧ mu 66 12 = nI (T 2 - 48) ∧ mu 66 13 = nI (T 3 - 48) ∧ ∀ c, c < n → (knd (T (4 + c))).isSome = true ∧ mu 71 c = nI ((knd (T (4 + c))).getD 0)
def frn (T : Nat → Nat) (i : Nat) : Bool := (List.range i).any (fre T)
theorem frn_s (T : Nat → Nat) (i : Nat) : frn T (i + 1) = (frn T i || fre T i) := by unfold frn; rw [List.range_succ, List.any_append]; simp
theorem frn_up {T : Nat → Nat} {i : Nat} (h : tn T ≤ i) : ∀ k, frn T (i + k) = frn T i
  | 0 => rfl
  | k + 1 => by
    show frn T (i + k + 1) = _
    rw [frn_s, frn_up h k]
    have : fre T (i + k) = false := by unfold fre; simp; omega
    rw [this, Bool.or_false]
theorem frn_20 {T : Nat → Nat} (h : tn T ≤ 20) : frn T (tn T) = anyf T := by
  have := frn_up (T := T) (Nat.le_refl (tn T)) (20 - tn T)
  rw [show tn T + (20 - tn T) = 20 by omega] at this
  exact this.symm
theorem knd_1 {t k : Nat} (h : knd t = some k) : k = 1 ↔ t = 116 := by
  unfold knd at h
  split at h
  · cases h; omega
  · split at h
    · cases h; omega
    · split at h
      · cases h; omega
      · split at h
        · cases h; omega
        · cases h
theorem knd_g {t : Nat} (h : (knd t).isSome = true) : knd t = some ((knd t).getD 0) := by
  cases e : knd t with
  | none => rw [e] at h; cases h
  | some k => rfl
theorem knd_g3 {t : Nat} : (knd t).getD 0 ≤ 3 := by
  cases e : knd t with
  | none => exact Nat.zero_le _
  | some k => exact knd_lt e
theorem RPf_at {T : Nat → Nat} {mu : zmu} (h : RPf T (tn T) mu) {c : Nat} (hc : c < tn T) : fre T c = decide (¬ (knd (T (4 + c))).getD 0 = 1) := by
  have g := knd_1 (knd_g (h.2.2.2 c hc).1)
  unfold fre
  simp [hc, g]
set_option maxRecDepth 4000 in
theorem m_hasRoom_l {X : zX} {mu : zmu} {nu : znu} {T : Nat → Nat} (hk : Tok T) (hR : RPf T (tn T) mu) (d : Nat) : ∀ n i , i + n = tn T → zJ X M_X9_hasRoom d 0 0 4 [.ref 66, .int (b2i (frn T i)), .int (nI i)] [] 86 (zEE (mu) (nu)) (zlift (zex (some (.int (b2i (anyf T)))) mu nu)) := by
  intro n
  induction n with
  | zero =>
    intro i  hi
    have h20 := tn_20 hk
    obtain rfl : i = tn T := by omega
    rw [← frn_20 h20]
    refine z_iload_n dX9_hasRoom_4 rfl ?_
    refine z_aload_n dX9_hasRoom_5 rfl ?_
    refine y_getIe dX9_hasRoom_6 lf_X9_95 rfl rfl hR.1 ?_
    refine z_aload_n dX9_hasRoom_9 rfl ?_
    refine y_getIe dX9_hasRoom_10 lf_X9_98 rfl rfl hR.2.1 ?_
    refine zn_imul dX9_hasRoom_13 ?_
    rw [show (T 1 - 48) * (T 2 - 48) = tn T from rfl]
    refine zn_icmp_ge (tgt := 43) dX9_hasRoom_14 (by decide) (by omega) (by omega) (fun hc14 => ?_) (fun hc14 => by exact absurd hc14 (Nat.lt_irrefl _))
    refine z_iload_n dX9_hasRoom_43 rfl ?_
    exact y_zreturn dX9_hasRoom_44 rfl (b2i_01 _) ⟨rfl, rfl, rfl⟩
  | succ n ih =>
    intro i  hi
    have h20 := tn_20 hk
    have hci := hR.2.2.2 i (by omega)
    have h3 := knd_g3 (t := T (4 + i))
    have hfi := RPf_at hR (show i < tn T by omega)
    have es := frn_s T i
    refine z_iload_n dX9_hasRoom_4 rfl ?_
    refine z_aload_n dX9_hasRoom_5 rfl ?_
    refine y_getIe dX9_hasRoom_6 lf_X9_95 rfl rfl hR.1 ?_
    refine z_aload_n dX9_hasRoom_9 rfl ?_
    refine y_getIe dX9_hasRoom_10 lf_X9_98 rfl rfl hR.2.1 ?_
    refine zn_imul dX9_hasRoom_13 ?_
    rw [show (T 1 - 48) * (T 2 - 48) = tn T from rfl]
    refine zn_icmp_ge (tgt := 43) dX9_hasRoom_14 (by decide) (by omega) (by omega) (fun hc14 => by omega) (fun hc14 => ?_)
    refine z_iload_n dX9_hasRoom_17 rfl ?_
    refine zb_if_ne (tgt := 31) dX9_hasRoom_18 (by decide) (fun hc18 => ?_) (fun hc18 => ?_)
    · refine z_iconst (v := nI 1) dX9_hasRoom_31 rfl ?_
      refine z_goto (tgt := 36) dX9_hasRoom_32 (by decide) ?_
      refine z_istore1 dX9_hasRoom_36 rfl ?_
      refine zn_iinc2 dX9_hasRoom_37 rfl ?_
      refine z_goto (tgt := 4) dX9_hasRoom_40 (by decide) ?_
      have e : frn T (i + 1) = true := by rw [es, hc18]; rfl
      have k := ih (i + 1) (by omega)
      rw [e] at k
      exact k
    · refine z_aload_n dX9_hasRoom_21 rfl ?_
      refine y_getR dX9_hasRoom_22 lf_X9_29 rfl rfl ?_
      refine z_iload_n dX9_hasRoom_25 rfl ?_
      refine y_ialde dX9_hasRoom_26 rfl (by decide) (by omega) hci.2 ?_
      refine z_iconst (v := nI 1) dX9_hasRoom_27 rfl ?_
      refine zn_icmp_eq (tgt := 35) dX9_hasRoom_28 (by decide) (by omega) (by omega) (fun hc28 => ?_) (fun hc28 => ?_)
      · refine z_iconst (v := nI 0) dX9_hasRoom_35 rfl ?_
        refine z_istore1 dX9_hasRoom_36 rfl ?_
        refine zn_iinc2 dX9_hasRoom_37 rfl ?_
        refine z_goto (tgt := 4) dX9_hasRoom_40 (by decide) ?_
        have e : frn T (i + 1) = false := by rw [es, hc18, hfi]; simp [hc28]
        have k := ih (i + 1) (by omega)
        rw [e] at k
        exact k
      · refine z_iconst (v := nI 1) dX9_hasRoom_31 rfl ?_
        refine z_goto (tgt := 36) dX9_hasRoom_32 (by decide) ?_
        refine z_istore1 dX9_hasRoom_36 rfl ?_
        refine zn_iinc2 dX9_hasRoom_37 rfl ?_
        refine z_goto (tgt := 4) dX9_hasRoom_40 (by decide) ?_
        have e : frn T (i + 1) = true := by rw [es, hfi]; simp [hc28]
        have k := ih (i + 1) (by omega)
        rw [e] at k
        exact k
set_option maxRecDepth 4000 in
theorem m_hasRoom {X : zX} {mu : zmu} {nu : znu} {T : Nat → Nat} (hk : Tok T) (hR : RPf T (tn T) mu) (d : Nat) : zJ X M_X9_hasRoom d 0 0 0 [.ref 66, zu, zu] [] 86 (zEE (mu) (nu)) (zlift (zex (some (.int (b2i (anyf T)))) mu nu)) := by
  refine z_iconst (v := nI 0) dX9_hasRoom_0 rfl ?_
  refine z_istore1 dX9_hasRoom_1 rfl ?_
  refine z_iconst (v := nI 0) dX9_hasRoom_2 rfl ?_
  refine z_istore2 dX9_hasRoom_3 rfl ?_
  exact m_hasRoom_l hk hR d (tn T) 0 (by omega)
theorem Tok.n4 {T : Nat → Nat} (h : Tok T) : 4 ≤ tn T := by
  obtain ⟨a, b, c, e⟩ := h
  exact Nat.le_trans (by decide : 4 ≤ 2 * 2) (Nat.mul_le_mul (show 2 ≤ T 1 - 48 by omega) (show 2 ≤ T 2 - 48 by omega))
theorem fitc_b {T : Nat → Nat} {i k r : Nat} (h : i = 4 + tn T + k * 3 + r) (hr : r < 3) : fitc T i = (decide (k < 5) && fib T r (T i)) := by
  unfold fitc
  rw [if_neg (by omega), if_neg (by omega), if_neg (by omega), if_neg (by omega), if_neg (by omega), show i - 4 - tn T = k * 3 + r by omega, show (k * 3 + r) % 3 = r by omega]
  congr 1
  apply Bool.eq_iff_iff.mpr
  simp only [decide_eq_true_eq]; omega
theorem fitc_c {T : Nat → Nat} {c : Nat} (h : c < tn T) : fitc T (4 + c) = (knd (T (4 + c))).isSome := by
  unfold fitc
  rw [if_neg (by omega), if_neg (by omega), if_neg (by omega), if_neg (by omega), if_pos (by omega)]
/-- the fault at a place up to which all fits -/
theorem flt_at {T : Nat → Nat} {len q : Nat} (hb : ∀ j, j < q → fitc T j = true) (hq : q ≤ len) (h1 : q < len → fitc T q = false) (h2 : q = len → whl T len = false) : flt T len = nI q := by
  rcases Nat.lt_or_ge q len with g | g
  · exact flt_some g (h1 g) hb
  · obtain rfl : q = len := by omega
    rw [flt_none hb, h2 rfl]; rfl
theorem whl_f {T : Nat → Nat} {len : Nat} (h : len < 4 ∨ len < 4 + tn T ∨ ¬ (len - 4 - tn T) % 3 = 0) : whl T len = false := by
  unfold whl
  rcases h with h | h | h
  · simp; omega
  · simp; omega
  · simp [h]
def RB (T : Nat → Nat) (k : Nat) (mu : zmu) : Prop := mu 66 15 = nI k ∧ ∀ b, b < k → mu 72 (2 * b) = nI (T (4 + tn T + b * 3 + 1) - 97) ∧ mu 72 (2 * b + 1) = nI (T (4 + tn T + b * 3 + 2) - 48)
/-- whose cells a reader writes -/
def rdr (a j : Nat) : Prop := (a = 66 ∧ (j = 3 ∨ (11 ≤ j ∧ j ≤ 15))) ∨ a = 71 ∨ a = 72
theorem Sm_rdr {mu : zmu} {a k : Nat} {v : Int32} (h : rdr a k) : Sm mu (u2 mu a k v) := Sm_u (by unfold live; unfold rdr at h; omega)
theorem RT_u {T : Nat → Nat} {len pl q : Nat} {mu : zmu} (h : RT T len pl mu) (hq : q ≤ len) : RT T len q (u2 mu 66 3 (nI q)) := by
  obtain ⟨hT, -, -, h48, h256⟩ := h
  exact ⟨⟨(u2_k (by decide)).trans hT.1, fun i hi => (u2_a (by decide)).trans (hT.2 i hi)⟩, u2_s, hq, h48, h256⟩
theorem RT_o {T : Nat → Nat} {len pl a k : Nat} {v : Int32} {mu : zmu} (h : RT T len pl mu) (hn : rdr a k) (h3 : ¬ (a = 66 ∧ k = 3)) : RT T len pl (u2 mu a k v) := by
  obtain ⟨hT, hpl, hle, h48, h256⟩ := h
  have g := Sm_rdr (mu := mu) (v := v) hn
  refine ⟨TM_e hT (g 66 2 (by unfold live; omega)) (Sm_row g (by omega)), ?_, hle, h48, h256⟩
  unfold u2
  by_cases e : 66 = a
  · rw [if_pos e, if_neg (by omega)]; exact hpl
  · rw [if_neg e]; exact hpl
theorem RPf_3 {T : Nat → Nat} {n : Nat} {v : Int32} {mu : zmu} (h : RPf T n mu) : RPf T n (u2 mu 66 3 v) := ⟨(u2_k (by decide)).trans h.1, (u2_k (by decide)).trans h.2.1, (u2_k (by decide)).trans h.2.2.1, fun c hc => ⟨(h.2.2.2 c hc).1, (u2_a (by decide)).trans (h.2.2.2 c hc).2⟩⟩
theorem RB_3 {T : Nat → Nat} {k : Nat} {v : Int32} {mu : zmu} (h : RB T k mu) : RB T k (u2 mu 66 3 v) := ⟨(u2_k (by decide)).trans h.1, fun b hb => ⟨(u2_a (by decide)).trans (h.2 b hb).1, (u2_a (by decide)).trans (h.2 b hb).2⟩⟩
theorem Sm_3 {mu : zmu} {v : Int32} : Sm mu (u2 mu 66 3 v) := Sm_rdr (Or.inl ⟨rfl, Or.inl rfl⟩)
theorem u2_u2 {mu : zmu} {a k : Nat} {v w : Int32} : u2 (u2 mu a k v) a k w = u2 mu a k w := by
  funext b j; unfold u2
  by_cases e : b = a
  · rw [if_pos e, if_pos e, if_pos e]
    by_cases e2 : j = k
    · rw [if_pos e2, if_pos e2]
    · rw [if_neg e2, if_neg e2, if_neg e2]
  · rw [if_neg e, if_neg e, if_neg e]
def QB (T : Nat → Nat) (len k : Nat) (mu : zmu) (nu : znu) : zq := fun r mu1 nu1 => nu1 = nu ∧ Sm mu mu1 ∧ ((r = some (.int (nI 1)) ∧ (∀ j, j < 4 + tn T + k * 3 + 3 → fitc T j = true) ∧ RT T len (4 + tn T + k * 3 + 3) mu1 ∧ RPf T (tn T) mu1 ∧ RB T (k + 1) mu1 ∧ k < 5) ∨ (r = some (.int (nI 0)) ∧ ∃ q, q ≤ 48 ∧ mu1 66 3 = nI q ∧ flt T len = nI q))
set_option maxRecDepth 4000 in
theorem m_readOneBoy {X : zX} {mu : zmu} {nu : znu} {T : Nat → Nat} {len pl k : Nat} (hk : Tok T) (hR : RT T len pl mu) (hF : RPf T (tn T) mu) (hB : RB T k mu) (h5 : k ≤ 5) (epl : pl = 4 + tn T + k * 3) (hlt : pl < len) (hb : ∀ j, j < pl → fitc T j = true) (d : Nat) : zJ X M_X9_readOneBoy (d + 2) 0 0 0 [.ref 66, zu, zu] [] 86 (zEE (mu) (nu)) (zlift (QB T len k mu nu)) := by
  obtain ⟨hT, hpl, hle, h48, h256⟩ := id hR
  have h20 := tn_20 hk
  have hn4 := hk.n4
  have h25 := h256 pl (by omega)
  have hTpl : mu 67 pl = nI (T pl) := hT.2 pl hlt
  refine z_aload_n dX9_readOneBoy_0 rfl ?_
  refine y_getR dX9_readOneBoy_1 lf_X9_7 rfl rfl ?_
  refine z_aload_n dX9_readOneBoy_4 rfl ?_
  refine y_getIe dX9_readOneBoy_5 lf_X9_92 rfl rfl hpl ?_
  refine y_ialde dX9_readOneBoy_8 rfl (by decide) (by omega) hTpl ?_
  refine z_bipush (v := nI 80) dX9_readOneBoy_9 rfl ?_
  refine zn_icmp_ne (tgt := 29) dX9_readOneBoy_11 (by decide) (by omega) (by omega) (fun hc11 => ?_) (fun hc11 => ?_)
  · refine z_iconst (v := nI 0) dX9_readOneBoy_29 rfl ?_
    exact y_zreturn dX9_readOneBoy_30 rfl (Or.inl rfl) (by refine ⟨rfl, Sm_rf, Or.inr ⟨rfl, pl, by omega, hpl, flt_at hb (by omega) (fun _ => ?_) (fun e => absurd e (by omega))⟩⟩; rw [fitc_b (k := k) (r := 0) (by omega) (by decide)]; simp [fib, hc11])
  · refine z_aload_n dX9_readOneBoy_14 rfl ?_
    refine y_getIe dX9_readOneBoy_15 lf_X9_101 rfl rfl hB.1 ?_
    refine z_iconst (v := nI 5) dX9_readOneBoy_18 rfl ?_
    refine zn_icmp_eq (tgt := 29) dX9_readOneBoy_19 (by decide) (by omega) (by omega) (fun hc19 => ?_) (fun hc19 => ?_)
    · refine z_iconst (v := nI 0) dX9_readOneBoy_29 rfl ?_
      exact y_zreturn dX9_readOneBoy_30 rfl (Or.inl rfl) (by refine ⟨rfl, Sm_rf, Or.inr ⟨rfl, pl, by omega, hpl, flt_at hb (by omega) (fun _ => ?_) (fun e => absurd e (by omega))⟩⟩; rw [fitc_b (k := k) (r := 0) (by omega) (by decide)]; simp [hc19])
    · refine z_aload_n dX9_readOneBoy_22 rfl ?_
      refine y_callV0x (M' := M_X9_hasRoom) dX9_readOneBoy_23 lm_X9_104 cv_X9_hasRoom rfl (Nat.le_of_ble_eq_true rfl) (Nat.le_of_ble_eq_true rfl) rfl (m_hasRoom hk hF _) ?_
      refine zb_if_ne (tgt := 31) dX9_readOneBoy_26 (by decide) (fun hc26 => ?_) (fun hc26 => ?_)
      · have hk5 : k < 5 := by omega
        have hb1 : ∀ j, j < pl + 1 → fitc T j = true := fun j hj => by
          rcases Nat.lt_or_ge j pl with g | g
          · exact hb j g
          · obtain rfl : j = pl := by omega
            rw [fitc_b (k := k) (r := 0) (by omega) (by decide)]
            simp [fib, hc11, hc26, hk5]
        have hR1 := RT_u (q := pl + 1) hR (by omega)
        refine z_aload_n dX9_readOneBoy_31 rfl ?_
        refine z_dup dX9_readOneBoy_32 rfl ?_
        refine y_getIe dX9_readOneBoy_33 lf_X9_92 rfl rfl hpl ?_
        refine z_iconst (v := nI 1) dX9_readOneBoy_36 rfl ?_
        refine zn_iadd dX9_readOneBoy_37 ?_
        refine y_putI dX9_readOneBoy_38 lp_X9_92 rfl rfl ?_
        refine z_aload_n dX9_readOneBoy_41 rfl ?_
        refine z_bipush (v := nI 97) dX9_readOneBoy_42 rfl ?_
        refine z_iconst (v := nI 0) dX9_readOneBoy_44 rfl ?_
        refine z_aload_n dX9_readOneBoy_45 rfl ?_
        refine y_getIe dX9_readOneBoy_46 lf_X9_95 rfl rfl ((u2_k (by decide)).trans hF.1) ?_
        refine z_aload_n dX9_readOneBoy_49 rfl ?_
        refine y_getIe dX9_readOneBoy_50 lf_X9_98 rfl rfl ((u2_k (by decide)).trans hF.2.1) ?_
        refine zn_imul dX9_readOneBoy_53 ?_
        rw [show (T 1 - 48) * (T 2 - 48) = tn T from rfl]
        refine z_iconst (v := nI 1) dX9_readOneBoy_54 rfl ?_
        refine zn_isub dX9_readOneBoy_55 (by omega) ?_
        refine y_callV3x (M' := M_X9_from) dX9_readOneBoy_56 lm_X9_108 cv_X9_from rfl (Nat.le_of_ble_eq_true rfl) (Nat.le_of_ble_eq_true rfl) rfl (m_from hR1 (by decide) (by decide) (by omega) _) ?_
        by_cases g1 : pl + 1 < len ∧ (97 + 0 ≤ T (pl + 1) ∧ T (pl + 1) ≤ 97 + (tn T - 1))
        · have eo : frm T len 97 0 (tn T - 1) (pl + 1) = some (T (pl + 1) - 97) := by simp only [frm]; rw [if_pos g1]
          rw [eo, show nxp (some (T (pl + 1) - 97)) (pl + 1) = pl + 1 + 1 from rfl, show o9 (some (T (pl + 1) - 97)) = nI (T (pl + 1) - 97) from rfl]
          have hg1 : 97 ≤ T (pl + 1) := by omega
          have hc97 : T (pl + 1) - 97 < tn T := by omega
          have h3 := knd_g3 (t := T (4 + (T (pl + 1) - 97)))
          have hsc : u2 (u2 mu 66 3 (nI (pl + 1))) 66 3 (nI (pl + 1 + 1)) 71 (T (pl + 1) - 97) = nI ((knd (T (4 + (T (pl + 1) - 97)))).getD 0) := (u2_a (by decide)).trans ((u2_a (by decide)).trans (hF.2.2.2 _ hc97).2)
          refine z_istore1 dX9_readOneBoy_59 rfl ?_
          refine z_iload_n dX9_readOneBoy_60 rfl ?_
          refine z_bipush (v := -9) dX9_readOneBoy_61 rfl ?_
          refine z_icmp_eq (tgt := 88) dX9_readOneBoy_63 (by decide) (fun hc63 => by exact absurd hc63 (nI_m9 (by omega))) (fun hc63 => ?_)
          refine z_aload_n dX9_readOneBoy_66 rfl ?_
          refine y_getR dX9_readOneBoy_67 lf_X9_29 rfl rfl ?_
          refine z_iload_n dX9_readOneBoy_70 rfl ?_
          refine y_ialde dX9_readOneBoy_71 rfl (by decide) (by omega) hsc ?_
          refine z_iconst (v := nI 1) dX9_readOneBoy_72 rfl ?_
          refine zn_icmp_ne (tgt := 88) dX9_readOneBoy_73 (by decide) (by omega) (by omega) (fun hc73 => ?_) (fun hc73 => ?_)
          · have e9 : fre T (T (pl + 1) - 97) = true := by rw [RPf_at hF hc97]; simp [hc73]
            have hb2 : ∀ j, j < pl + 2 → fitc T j = true := fun j hj => by
              rcases Nat.lt_or_ge j (pl + 1) with g | g
              · exact hb1 j g
              · obtain rfl : j = pl + 1 := by omega
                rw [fitc_b (k := k) (r := 1) (by omega) (by decide)]
                simp [fib, e9, hk5, hg1]
            have hR2 := RT_u (q := pl + 1 + 1) hR1 (by omega)
            refine z_iload_n dX9_readOneBoy_88 rfl ?_
            refine z_bipush (v := -9) dX9_readOneBoy_89 rfl ?_
            refine z_icmp_ne (tgt := 99) dX9_readOneBoy_91 (by decide) (fun hc91 => ?_) (fun hc91 => by exact absurd hc91 (nI_m9 (by omega)))
            refine z_aload_n dX9_readOneBoy_99 rfl ?_
            refine z_bipush (v := nI 48) dX9_readOneBoy_100 rfl ?_
            refine z_iconst (v := nI 0) dX9_readOneBoy_102 rfl ?_
            refine z_iconst (v := nI 3) dX9_readOneBoy_103 rfl ?_
            refine y_callV3x (M' := M_X9_from) dX9_readOneBoy_104 lm_X9_108 cv_X9_from rfl (Nat.le_of_ble_eq_true rfl) (Nat.le_of_ble_eq_true rfl) rfl (m_from hR2 (by decide) (by decide) (by decide) _) ?_
            by_cases g2 : pl + 1 + 1 < len ∧ (48 + 0 ≤ T (pl + 1 + 1) ∧ T (pl + 1 + 1) ≤ 48 + 3)
            · have eo : frm T len 48 0 3 (pl + 1 + 1) = some (T (pl + 1 + 1) - 48) := by simp only [frm]; rw [if_pos g2]
              rw [eo, show nxp (some (T (pl + 1 + 1) - 48)) (pl + 1 + 1) = pl + 3 from rfl, show o9 (some (T (pl + 1 + 1) - 48)) = nI (T (pl + 1 + 1) - 48) from rfl]
              have h25 := hR.2.2.2.2 (pl + 1 + 1) (by omega)
              have hr15 : ∀ v w : Int32, u2 (u2 (u2 mu 66 3 v) 66 3 w) 66 3 (nI (pl + 3)) 66 15 = nI k := fun v w => ((u2_k (by decide)).trans ((u2_k (by decide)).trans ((u2_k (by decide)).trans hB.1)))
              refine z_istore2 dX9_readOneBoy_107 rfl ?_
              refine z_iload_n dX9_readOneBoy_108 rfl ?_
              refine z_bipush (v := -9) dX9_readOneBoy_109 rfl ?_
              refine z_icmp_ne (tgt := 116) dX9_readOneBoy_111 (by decide) (fun hc111 => ?_) (fun hc111 => by exact absurd hc111 (nI_m9 (by omega)))
              refine z_aload_n dX9_readOneBoy_116 rfl ?_
              refine y_getR dX9_readOneBoy_117 lf_X9_32 rfl rfl ?_
              refine z_iconst (v := nI 2) dX9_readOneBoy_120 rfl ?_
              refine z_aload_n dX9_readOneBoy_121 rfl ?_
              refine y_getIe dX9_readOneBoy_122 lf_X9_101 rfl rfl (hr15 _ _) ?_
              refine zn_imul dX9_readOneBoy_125 ?_
              refine z_iload_n dX9_readOneBoy_126 rfl ?_
              refine y_iast dX9_readOneBoy_127 rfl (by decide) (by omega) ?_
              refine z_aload_n dX9_readOneBoy_128 rfl ?_
              refine y_getR dX9_readOneBoy_129 lf_X9_32 rfl rfl ?_
              refine z_iconst (v := nI 2) dX9_readOneBoy_132 rfl ?_
              refine z_aload_n dX9_readOneBoy_133 rfl ?_
              refine y_getIe dX9_readOneBoy_134 lf_X9_101 rfl rfl ((u2_a (by decide)).trans (hr15 _ _)) ?_
              refine zn_imul dX9_readOneBoy_137 ?_
              refine z_iconst (v := nI 1) dX9_readOneBoy_138 rfl ?_
              refine zn_iadd dX9_readOneBoy_139 ?_
              refine z_iload_n dX9_readOneBoy_140 rfl ?_
              refine y_iast dX9_readOneBoy_141 rfl (by decide) (by omega) ?_
              refine z_aload_n dX9_readOneBoy_142 rfl ?_
              refine z_dup dX9_readOneBoy_143 rfl ?_
              refine y_getIe dX9_readOneBoy_144 lf_X9_101 rfl rfl ((u2_a (by decide)).trans ((u2_a (by decide)).trans (hr15 _ _))) ?_
              refine z_iconst (v := nI 1) dX9_readOneBoy_147 rfl ?_
              refine zn_iadd dX9_readOneBoy_148 ?_
              refine y_putI dX9_readOneBoy_149 lp_X9_101 rfl rfl ?_
              refine z_iconst (v := nI 1) dX9_readOneBoy_152 rfl ?_
              exact y_zreturn dX9_readOneBoy_153 rfl (Or.inr rfl) (by
                  refine ⟨rfl, Sm_tr Sm_3 (Sm_tr Sm_3 (Sm_tr Sm_3 (Sm_tr (Sm_rdr (Or.inr (Or.inr rfl))) (Sm_tr (Sm_rdr (Or.inr (Or.inr rfl))) (Sm_rdr (Or.inl ⟨rfl, by omega⟩)))))), Or.inl ⟨rfl, fun j hj => ?_, ?_, ?_, ?_, hk5⟩⟩
                  · rcases Nat.lt_or_ge j (pl + 2) with g | g
                    · exact hb2 j g
                    · obtain rfl : j = pl + 1 + 1 := by omega
                      rw [fitc_b (k := k) (r := 2) (by omega) (by decide)]
                      simp [fib, hk5]; omega
                  · rw [← epl]
                    exact RT_o (RT_o (RT_o (RT_u (q := pl + 3) hR2 (by omega)) (Or.inr (Or.inr rfl)) (by omega)) (Or.inr (Or.inr rfl)) (by omega)) (Or.inl ⟨rfl, by omega⟩) (by omega)
                  · have g := RPf_3 (v := nI (pl + 3)) (RPf_3 (v := nI (pl + 1 + 1)) (RPf_3 (v := nI (pl + 1)) hF))
                    refine ⟨(u2_k (by decide)).trans ((u2_a (by decide)).trans ((u2_a (by decide)).trans g.1)), (u2_k (by decide)).trans ((u2_a (by decide)).trans ((u2_a (by decide)).trans g.2.1)), (u2_k (by decide)).trans ((u2_a (by decide)).trans ((u2_a (by decide)).trans g.2.2.1)), fun c hc => ⟨(g.2.2.2 c hc).1, (u2_a (by decide)).trans ((u2_a (by decide)).trans ((u2_a (by decide)).trans (g.2.2.2 c hc).2))⟩⟩
                  · refine ⟨u2_s, fun b hbk => ?_⟩
                    by_cases e : b = k
                    · subst e
                      have e1 : 4 + tn T + b * 3 + 1 = pl + 1 := by omega
                      have e2 : 4 + tn T + b * 3 + 2 = pl + 1 + 1 := by omega
                      rw [e1, e2]
                      exact ⟨(u2_a (by decide)).trans ((u2_k (by omega)).trans u2_s), (u2_a (by decide)).trans u2_s⟩
                    · have g := (RB_3 (v := nI (pl + 3)) (RB_3 (v := nI (pl + 1 + 1)) (RB_3 (v := nI (pl + 1)) hB))).2 b (by omega)
                      exact ⟨(u2_a (by decide)).trans ((u2_k (by omega)).trans ((u2_k (by omega)).trans g.1)), (u2_a (by decide)).trans ((u2_k (by omega)).trans ((u2_k (by omega)).trans g.2))⟩)
            · have eo : frm T len 48 0 3 (pl + 1 + 1) = none := by simp only [frm]; rw [if_neg g2]
              rw [eo, show nxp none (pl + 1 + 1) = pl + 2 from rfl, show o9 none = -9 from rfl]
              refine z_istore2 dX9_readOneBoy_107 rfl ?_
              refine z_iload_n dX9_readOneBoy_108 rfl ?_
              refine z_bipush (v := -9) dX9_readOneBoy_109 rfl ?_
              refine z_icmp_ne (tgt := 116) dX9_readOneBoy_111 (by decide) (fun hc111 => by exact absurd rfl hc111) (fun hc111 => ?_)
              refine z_iconst (v := nI 0) dX9_readOneBoy_114 rfl ?_
              exact y_zreturn dX9_readOneBoy_115 rfl (Or.inl rfl) (by
                  refine ⟨rfl, Sm_tr Sm_3 (Sm_tr Sm_3 Sm_3), Or.inr ⟨rfl, pl + 2, by omega, u2_s, flt_at hb2 (by omega) (fun g => ?_) (fun e => whl_f (Or.inr (Or.inr (by omega))))⟩⟩
                  rw [fitc_b (k := k) (r := 2) (by omega) (by decide)]
                  have : ¬ (48 ≤ T (pl + 2) ∧ T (pl + 2) ≤ 51) := fun g3 => g2 ⟨g, g3⟩
                  simp [fib]; intro _; omega)
          · refine z_aload_n dX9_readOneBoy_76 rfl ?_
            refine z_dup dX9_readOneBoy_77 rfl ?_
            refine y_getIe dX9_readOneBoy_78 lf_X9_92 rfl rfl u2_s ?_
            refine z_iconst (v := nI 1) dX9_readOneBoy_81 rfl ?_
            refine zn_isub dX9_readOneBoy_82 (by omega) ?_
            refine y_putI dX9_readOneBoy_83 lp_X9_92 rfl rfl ?_
            refine z_iconst (v := nI 0) dX9_readOneBoy_86 rfl ?_
            exact y_zreturn dX9_readOneBoy_87 rfl (Or.inl rfl) (by
                refine ⟨rfl, Sm_tr Sm_3 (Sm_tr Sm_3 Sm_3), Or.inr ⟨rfl, pl + 1, by omega, u2_s, flt_at hb1 (by omega) (fun _ => ?_) (fun e => absurd e (by omega))⟩⟩
                rw [fitc_b (k := k) (r := 1) (by omega) (by decide)]
                have e9 : fre T (T (pl + 1) - 97) = false := by rw [RPf_at hF hc97]; simp [hc73]
                simp [fib, e9])
        · have eo : frm T len 97 0 (tn T - 1) (pl + 1) = none := by simp only [frm]; rw [if_neg g1]
          rw [eo, show nxp none (pl + 1) = pl + 1 from rfl, show o9 none = -9 from rfl]
          refine z_istore1 dX9_readOneBoy_59 rfl ?_
          refine z_iload_n dX9_readOneBoy_60 rfl ?_
          refine z_bipush (v := -9) dX9_readOneBoy_61 rfl ?_
          refine z_icmp_eq (tgt := 88) dX9_readOneBoy_63 (by decide) (fun hc63 => ?_) (fun hc63 => by exact absurd rfl hc63)
          refine z_iload_n dX9_readOneBoy_88 rfl ?_
          refine z_bipush (v := -9) dX9_readOneBoy_89 rfl ?_
          refine z_icmp_ne (tgt := 99) dX9_readOneBoy_91 (by decide) (fun hc91 => by exact absurd rfl hc91) (fun hc91 => ?_)
          refine z_bipush (v := -9) dX9_readOneBoy_94 rfl ?_
          refine z_goto (tgt := 107) dX9_readOneBoy_96 (by decide) ?_
          refine z_istore2 dX9_readOneBoy_107 rfl ?_
          refine z_iload_n dX9_readOneBoy_108 rfl ?_
          refine z_bipush (v := -9) dX9_readOneBoy_109 rfl ?_
          refine z_icmp_ne (tgt := 116) dX9_readOneBoy_111 (by decide) (fun hc111 => by exact absurd rfl hc111) (fun hc111 => ?_)
          refine z_iconst (v := nI 0) dX9_readOneBoy_114 rfl ?_
          exact y_zreturn dX9_readOneBoy_115 rfl (Or.inl rfl) (by
              refine ⟨rfl, Sm_tr Sm_3 Sm_3, Or.inr ⟨rfl, pl + 1, by omega, u2_s, flt_at hb1 (by omega) (fun g => ?_) (fun e => whl_f (Or.inr (Or.inr (by omega))))⟩⟩
              rw [fitc_b (k := k) (r := 1) (by omega) (by decide)]
              have : ¬ (97 ≤ T (pl + 1) ∧ T (pl + 1) - 97 < tn T) := fun g3 => g1 ⟨g, by omega, by omega⟩
              simp [fib, fre]; intro _ _; omega)
      · refine z_iconst (v := nI 0) dX9_readOneBoy_29 rfl ?_
        exact y_zreturn dX9_readOneBoy_30 rfl (Or.inl rfl) (by refine ⟨rfl, Sm_rf, Or.inr ⟨rfl, pl, by omega, hpl, flt_at hb (by omega) (fun _ => ?_) (fun e => absurd e (by omega))⟩⟩; rw [fitc_b (k := k) (r := 0) (by omega) (by decide)]; simp [fib, hc26])
