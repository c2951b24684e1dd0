/-- how many cells a text tells -/
def tn (T : Nat → Nat) : Nat := (T 1 - 48) * (T 2 - 48)
def fre (T : Nat → Nat) (c : Nat) : Bool := decide (c < tn T) && decide (T (4 + c) ≠ 116)
def anyf (T : Nat → Nat) : Bool := (List.range 20).any (fre T)
def knd (t : Nat) : Option Nat := if t = 108 then some 0 else if t = 116 then some 1 else if t = 98 then some 2 else if t = 114 then some 3 else none
def o9 : Option Nat → Int32
  | none => -9
  | some q => nI q
def fib (T : Nat → Nat) (r t : Nat) : Bool := if r = 0 then (t == 80 && anyf T) else if r = 1 then (decide (97 ≤ t) && fre T (t - 97)) else (decide (48 ≤ t) && decide (t ≤ 51))
def fitc (T : Nat → Nat) (i : Nat) : Bool := if i = 0 then T 0 == 87 else if i = 1 then (decide (50 ≤ T 1) && decide (T 1 ≤ 53)) else if i = 2 then (decide (50 ≤ T 2) && decide (T 2 ≤ 52)) else if i = 3 then (decide (48 ≤ T 3) && decide (T 3 < T 2))
  else if i - 4 < tn T then (knd (T i)).isSome else (decide (i - 4 - tn T < 15) && fib T ((i - 4 - tn T) % 3) (T i))
def whl (T : Nat → Nat) (len : Nat) : Bool := decide (4 ≤ len) && (decide (4 + tn T ≤ len) && decide ((len - 4 - tn T) % 3 = 0))
def flt (T : Nat → Nat) (len : Nat) : Int32 := match (List.range len).find? (fun i => !fitc T i) with
  | some i => nI i
  | none => if whl T len = true then -9 else nI len
def TFc (T : Nat → Nat) (len : Nat) (mu : zmu) : Prop := mu 1 1 = nI len ∧ len ≤ 48 ∧ ∀ i, i < 48 → mu 2 i = nI (T i) ∧ T i < 256
def Tok (T : Nat → Nat) : Prop := 50 ≤ T 1 ∧ T 1 ≤ 53 ∧ 50 ≤ T 2 ∧ T 2 ≤ 52
theorem tn_20 {T : Nat → Nat} (h : Tok T) : tn T ≤ 20 := by
  obtain ⟨a, b, c, e⟩ := h
  exact Nat.le_trans (Nat.mul_le_mul (show T 1 - 48 ≤ 5 by omega) (show T 2 - 48 ≤ 4 by omega)) (by decide)
theorem knd_lt {t q : Nat} (h : knd t = some q) : q ≤ 3 := by
  unfold knd at h
  split at h
  · cases h; decide
  · split at h
    · cases h; decide
    · split at h
      · cases h; decide
      · split at h
        · cases h; decide
        · cases h
theorem knd_th {t : Nat} (h : o9 (knd t) = nI 1) : t = 116 := by
  by_cases e : t = 116
  · exact e
  · exfalso
    unfold knd at h
    by_cases a : t = 108
    · rw [if_pos a] at h; exact absurd h (by decide)
    · rw [if_neg a, if_neg e] at h
      by_cases b : t = 98
      · rw [if_pos b] at h; exact absurd h (by decide)
      · rw [if_neg b] at h
        by_cases c : t = 114
        · rw [if_pos c] at h; exact absurd h (by decide)
        · rw [if_neg c] at h; exact absurd h (by decide)
set_option maxRecDepth 4000 in
theorem c_kindOf {X : zX} {mu : zmu} {nu : znu} {t : Nat} (ht : t < 256) (d : Nat) : zJ X M_X7_kindOf d 0 0 0 [.int (nI t)] [] 86 (zEE (mu) nu) (zlift (zex (some (.int (o9 (knd t)))) (mu) nu)) := by
  have hrt : (nI t).toInt = (t : Int) := nI_toInt (by omega)
  refine z_iload_n dX7_kindOf_0 rfl ?_
  by_cases h98 : t = 98
  · subst h98
    refine z_lookup (off := 47) (tgt := 48) dX7_kindOf_1 (by decide) (by decide) (by decide) ?_
    refine z_iconst (v := nI 2) dX7_kindOf_48 rfl ?_
    exact y_ireturn dX7_kindOf_49 rfl ⟨rfl, rfl, rfl⟩
  by_cases h108 : t = 108
  · subst h108
    refine z_lookup (off := 43) (tgt := 44) dX7_kindOf_1 (by decide) (by decide) (by decide) ?_
    refine z_iconst (v := nI 0) dX7_kindOf_44 rfl ?_
    exact y_ireturn dX7_kindOf_45 rfl ⟨rfl, rfl, rfl⟩
  by_cases h114 : t = 114
  · subst h114
    refine z_lookup (off := 49) (tgt := 50) dX7_kindOf_1 (by decide) (by decide) (by decide) ?_
    refine z_iconst (v := nI 3) dX7_kindOf_50 rfl ?_
    exact y_ireturn dX7_kindOf_51 rfl ⟨rfl, rfl, rfl⟩
  by_cases h116 : t = 116
  · subst h116
    refine z_lookup (off := 45) (tgt := 46) dX7_kindOf_1 (by decide) (by decide) (by decide) ?_
    refine z_iconst (v := nI 1) dX7_kindOf_46 rfl ?_
    exact y_ireturn dX7_kindOf_47 rfl ⟨rfl, rfl, rfl⟩
  refine z_lookup (off := 51) (tgt := 52) dX7_kindOf_1 (by decide) (by rw [hrt]; simp [Op.lookupswitch.offset]; omega) (by decide) ?_
  refine z_bipush (v := -9) dX7_kindOf_52 rfl ?_
  exact y_ireturn dX7_kindOf_54 rfl ⟨by rw [show knd t = none by simp [knd, h98, h108, h114, h116]]; rfl, rfl, rfl⟩
set_option maxRecDepth 4000 in
theorem c_figure {X : zX} {mu : zmu} {nu : znu} {T : Nat → Nat} {len i : Nat} (hT : TFc T len mu) (hi : i < 48) (h48 : 48 ≤ T i) (d : Nat) : zJ X M_X7_figure d 0 0 0 [.ref 1, .int (nI i)] [] 86 (zEE (mu) nu) (zlift (zex (some (.int (nI (T i - 48)))) (mu) nu)) := by
  refine z_aload_n dX7_figure_0 rfl ?_
  refine y_getR dX7_figure_1 lf_X7_9 rfl rfl ?_
  refine z_iload_n dX7_figure_4 rfl ?_
  refine y_ialde dX7_figure_5 rfl (by decide) (by omega) (hT.2.2 i hi).1 ?_
  refine z_bipush (v := nI 48) dX7_figure_6 rfl ?_
  refine zn_isub dX7_figure_8 (by omega) ?_
  exact y_ireturn dX7_figure_9 rfl ⟨rfl, rfl, rfl⟩
set_option maxRecDepth 4000 in
theorem c_cells {X : zX} {mu : zmu} {nu : znu} {T : Nat → Nat} {len : Nat} (hT : TFc T len mu) (hk : Tok T) (d : Nat) : zJ X M_X7_cells (d + 1) 0 0 0 [.ref 1] [] 86 (zEE (mu) nu) (zlift (zex (some (.int (nI (tn T)))) (mu) nu)) := by
  obtain ⟨k1, k2, k3, k4⟩ := hk
  refine z_aload_n dX7_cells_0 rfl ?_
  refine y_getR dX7_cells_1 lf_X7_9 rfl rfl ?_
  refine z_iconst (v := nI 1) dX7_cells_4 rfl ?_
  refine y_ialde dX7_cells_5 rfl (by decide) (by omega) (hT.2.2 1 (by decide)).1 ?_
  refine z_bipush (v := nI 48) dX7_cells_6 rfl ?_
  refine zn_isub dX7_cells_8 (by omega) ?_
  refine z_aload_n dX7_cells_9 rfl ?_
  refine y_getR dX7_cells_10 lf_X7_9 rfl rfl ?_
  refine z_iconst (v := nI 2) dX7_cells_13 rfl ?_
  refine y_ialde dX7_cells_14 rfl (by decide) (by omega) (hT.2.2 2 (by decide)).1 ?_
  refine z_bipush (v := nI 48) dX7_cells_15 rfl ?_
  refine zn_isub dX7_cells_17 (by omega) ?_
  refine zn_imul dX7_cells_18 ?_
  exact y_ireturn dX7_cells_19 rfl ⟨rfl, rfl, rfl⟩
set_option maxRecDepth 4000 in
theorem c_isFreeCell {X : zX} {mu : zmu} {nu : znu} {T : Nat → Nat} {len c : Nat} (hT : TFc T len mu) (hk : Tok T) (hc : c < 1000) (d : Nat) : zJ X M_X7_isFreeCell (d + 2) 0 0 0 [.ref 1, .int (nI c)] [] 86 (zEE (mu) nu) (zlift (zex (some (.int (b2i (fre T c)))) (mu) nu)) := by
  have h20 := tn_20 hk
  refine z_iload_n dX7_isFreeCell_0 rfl ?_
  refine zn_if_lt (tgt := 37) dX7_isFreeCell_1 (by decide) (by omega) ?_
  refine z_iload_n dX7_isFreeCell_4 rfl ?_
  refine z_aload_n dX7_isFreeCell_5 rfl ?_
  refine y_callV0x (M' := M_X7_cells) dX7_isFreeCell_6 lm_X7_27 cv_X7_cells rfl (Nat.le_of_ble_eq_true rfl) (Nat.le_of_ble_eq_true rfl) rfl (c_cells hT hk d) ?_
  refine zn_icmp_ge (tgt := 37) dX7_isFreeCell_9 (by decide) (by omega) (by omega) (fun hc9 => ?_) (fun hc9 => ?_)
  · refine z_iconst (v := nI 0) dX7_isFreeCell_37 rfl ?_
    exact y_zreturn dX7_isFreeCell_38 rfl (by first | exact Or.inl rfl | exact Or.inr rfl | assumption) ⟨by rw [b2i_f]; simp [fre]; intro h; omega, rfl, rfl⟩
  · refine z_iload_n dX7_isFreeCell_12 rfl ?_
    refine z_bipush (v := nI 20) dX7_isFreeCell_13 rfl ?_
    refine zn_icmp_ge (tgt := 37) dX7_isFreeCell_15 (by decide) (by omega) (by omega) (fun hc15 => by omega) (fun hc15 => ?_)
    refine z_aload_n dX7_isFreeCell_18 rfl ?_
    refine y_getR dX7_isFreeCell_19 lf_X7_9 rfl rfl ?_
    refine z_iconst (v := nI 4) dX7_isFreeCell_22 rfl ?_
    refine z_iload_n dX7_isFreeCell_23 rfl ?_
    refine zn_iadd dX7_isFreeCell_24 ?_
    refine y_ialde dX7_isFreeCell_25 rfl (by decide) (by omega) (hT.2.2 (4 + c) (by omega)).1 ?_
    refine y_callS1x (M' := M_X7_kindOf) dX7_isFreeCell_26 lm_X7_31 cs_X7_kindOf (Nat.le_of_ble_eq_true rfl) (Nat.le_of_ble_eq_true rfl) rfl (c_kindOf (hT.2.2 (4 + c) (by omega)).2 (d + 1)) ?_
    refine z_iconst (v := nI 1) dX7_isFreeCell_29 rfl ?_
    refine z_icmp_eq (tgt := 37) dX7_isFreeCell_30 (by decide) (fun hc30 => ?_) (fun hc30 => ?_)
    · have e1 : T (4 + c) = 116 := knd_th hc30
      refine z_iconst (v := nI 0) dX7_isFreeCell_37 rfl ?_
      exact y_zreturn dX7_isFreeCell_38 rfl (by first | exact Or.inl rfl | exact Or.inr rfl | assumption) ⟨by rw [b2i_f]; simp [fre, e1], rfl, rfl⟩
    · have e1 : T (4 + c) ≠ 116 := fun e => hc30 (by rw [e]; rfl)
      refine z_iconst (v := nI 1) dX7_isFreeCell_33 rfl ?_
      refine z_goto (tgt := 38) dX7_isFreeCell_34 (by decide) ?_
      exact y_zreturn dX7_isFreeCell_38 rfl (by first | exact Or.inl rfl | exact Or.inr rfl | assumption) ⟨by rw [b2i_t]; simp [fre, e1]; omega, rfl, rfl⟩
set_option maxRecDepth 4000 in
theorem c_isFreeCellN {X : zX} {mu : zmu} {nu : znu} {x : Int32} (hx : x < 0) (d : Nat) : zJ X M_X7_isFreeCell (d + 2) 0 0 0 [.ref 1, .int x] [] 86 (zEE (mu) nu) (zlift (zex (some (.int (b2i false))) (mu) nu)) := by
  refine z_iload_n dX7_isFreeCell_0 rfl ?_
  refine z_if_lt (tgt := 37) dX7_isFreeCell_1 (by decide) (fun hc1 => ?_) (fun hc1 => by exact absurd hx hc1)
  refine z_iconst (v := nI 0) dX7_isFreeCell_37 rfl ?_
  exact y_zreturn dX7_isFreeCell_38 rfl (by first | exact Or.inl rfl | exact Or.inr rfl | assumption) ⟨rfl, rfl, rfl⟩
theorem anyf_t {T : Nat → Nat} {c : Nat} (hc : c < 20) (h : fre T c = true) : anyf T = true := List.any_eq_true.mpr ⟨c, List.mem_range.mpr hc, h⟩
theorem anyf_f {T : Nat → Nat} (h : ∀ c, c < 20 → fre T c = false) : anyf T = false := by
  rw [anyf, List.any_eq_false]
  intro c hc
  rw [h c (List.mem_range.mp hc)]; decide
set_option maxRecDepth 4000 in
theorem c_hasFreeCell_l {X : zX} {mu : zmu} {nu : znu} {T : Nat → Nat} {len : Nat} (hT : TFc T len mu) (hk : Tok T) (d : Nat) : ∀ n i, i + n = 20 → (∀ c, c < i → fre T c = false) → zJ X M_X7_hasFreeCell (d + 3) 0 0 2 [.ref 1, .int (nI i)] [] 86 (zEE (mu) nu) (zlift (zex (some (.int (b2i (anyf T)))) (mu) nu)) := by
  intro n
  induction n with
  | zero =>
    intro i hi hno
    refine z_iload_n dX7_hasFreeCell_2 rfl ?_
    refine z_bipush (v := nI 20) dX7_hasFreeCell_3 rfl ?_
    refine zn_icmp_ge (tgt := 24) dX7_hasFreeCell_5 (by decide) (by omega) (by omega) (fun hc5 => ?_) (fun hc5 => by omega)
    refine z_iconst (v := nI 0) dX7_hasFreeCell_24 rfl ?_
    exact y_zreturn dX7_hasFreeCell_25 rfl (by first | exact Or.inl rfl | exact Or.inr rfl | assumption) ⟨by rw [b2i_f (anyf_f (fun c hc => hno c (by omega)))], rfl, rfl⟩
  | succ n ih =>
    intro i hi hno
    refine z_iload_n dX7_hasFreeCell_2 rfl ?_
    refine z_bipush (v := nI 20) dX7_hasFreeCell_3 rfl ?_
    refine zn_icmp_ge (tgt := 24) dX7_hasFreeCell_5 (by decide) (by omega) (by omega) (fun hc5 => by omega) (fun hc5 => ?_)
    refine z_aload_n dX7_hasFreeCell_8 rfl ?_
    refine z_iload_n dX7_hasFreeCell_9 rfl ?_
    refine y_callV1x (M' := M_X7_isFreeCell) dX7_hasFreeCell_10 lm_X7_42 cv_X7_isFreeCell rfl (Nat.le_of_ble_eq_true rfl) (Nat.le_of_ble_eq_true rfl) rfl (c_isFreeCell hT hk (c := i) (by omega) d) ?_
    refine zb_if_eq (tgt := 18) dX7_hasFreeCell_13 (by decide) (fun hc13 => ?_) (fun hc13 => ?_)
    · refine zn_iinc1 dX7_hasFreeCell_18 rfl ?_
      refine z_goto (tgt := 2) dX7_hasFreeCell_21 (by decide) ?_
      exact ih (i + 1) (by omega) (fun c hc => by rcases Nat.lt_or_ge c i with g | g; exact hno c g; rw [show c = i by omega]; exact hc13)
    · refine z_iconst (v := nI 1) dX7_hasFreeCell_16 rfl ?_
      exact y_zreturn dX7_hasFreeCell_17 rfl (by first | exact Or.inl rfl | exact Or.inr rfl | assumption) ⟨by rw [b2i_t (anyf_t (by omega) hc13)], rfl, rfl⟩
set_option maxRecDepth 4000 in
theorem c_hasFreeCell {X : zX} {mu : zmu} {nu : znu} {T : Nat → Nat} {len : Nat} (hT : TFc T len mu) (hk : Tok T) (d : Nat) : zJ X M_X7_hasFreeCell (d + 3) 0 0 0 [.ref 1, zu] [] 86 (zEE (mu) nu) (zlift (zex (some (.int (b2i (anyf T)))) (mu) nu)) := by
  refine z_iconst (v := nI 0) dX7_hasFreeCell_0 rfl ?_
  refine z_istore1 dX7_hasFreeCell_1 rfl ?_
  exact c_hasFreeCell_l hT hk d 20 0 (by omega) (fun c hc => by omega)
set_option maxRecDepth 4000 in
theorem c_fitsInBoy {X : zX} {mu : zmu} {nu : znu} {T : Nat → Nat} {len r t : Nat} (hT : TFc T len mu) (hk : Tok T) (hr : r < 3) (ht : t < 256) (d : Nat) : zJ X M_X7_fitsInBoy (d + 4) 0 0 0 [.ref 1, .int (nI r), .int (nI t)] [] 86 (zEE (mu) nu) (zlift (zex (some (.int (b2i (fib T r t)))) (mu) nu)) := by
  have h20 := tn_20 hk
  obtain rfl | rfl | rfl : r = 0 ∨ r = 1 ∨ r = 2 := by omega
  · refine z_iload_n dX7_fitsInBoy_0 rfl ?_
    refine zn_if_ne (tgt := 23) dX7_fitsInBoy_1 (by decide) (by omega) (fun hc1 => by omega) (fun hc1 => ?_)
    refine z_iload_n dX7_fitsInBoy_4 rfl ?_
    refine z_bipush (v := nI 80) dX7_fitsInBoy_5 rfl ?_
    refine zn_icmp_ne (tgt := 21) dX7_fitsInBoy_7 (by decide) (by omega) (by omega) (fun hc7 => ?_) (fun hc7 => ?_)
    · refine z_iconst (v := nI 0) dX7_fitsInBoy_21 rfl ?_
      exact y_zreturn dX7_fitsInBoy_22 rfl (by first | exact Or.inl rfl | exact Or.inr rfl | assumption) ⟨by rw [b2i_f]; simp [fib, hc7], rfl, rfl⟩
    · refine z_aload_n dX7_fitsInBoy_10 rfl ?_
      refine y_callV0x (M' := M_X7_hasFreeCell) dX7_fitsInBoy_11 lm_X7_39 cv_X7_hasFreeCell rfl (Nat.le_of_ble_eq_true rfl) (Nat.le_of_ble_eq_true rfl) rfl (c_hasFreeCell hT hk d) ?_
      refine zb_if_eq (tgt := 21) dX7_fitsInBoy_14 (by decide) (fun hc14 => ?_) (fun hc14 => ?_)
      · refine z_iconst (v := nI 0) dX7_fitsInBoy_21 rfl ?_
        exact y_zreturn dX7_fitsInBoy_22 rfl (by first | exact Or.inl rfl | exact Or.inr rfl | assumption) ⟨by rw [b2i_f]; simp [fib, hc14], rfl, rfl⟩
      · refine z_iconst (v := nI 1) dX7_fitsInBoy_17 rfl ?_
        refine z_goto (tgt := 22) dX7_fitsInBoy_18 (by decide) ?_
        exact y_zreturn dX7_fitsInBoy_22 rfl (by first | exact Or.inl rfl | exact Or.inr rfl | assumption) ⟨by rw [b2i_t]; simp [fib, hc7, hc14], rfl, rfl⟩
  · by_cases h97 : 97 ≤ t
    · refine z_iload_n dX7_fitsInBoy_0 rfl ?_
      refine zn_if_ne (tgt := 23) dX7_fitsInBoy_1 (by decide) (by omega) (fun hc1 => ?_) (fun hc1 => by omega)
      refine z_iload_n dX7_fitsInBoy_23 rfl ?_
      refine z_iconst (v := nI 1) dX7_fitsInBoy_24 rfl ?_
      refine zn_icmp_ne (tgt := 39) dX7_fitsInBoy_25 (by decide) (by omega) (by omega) (fun hc25 => by omega) (fun hc25 => ?_)
      refine z_aload_n dX7_fitsInBoy_28 rfl ?_
      refine z_iload_n dX7_fitsInBoy_29 rfl ?_
      refine z_bipush (v := nI 97) dX7_fitsInBoy_30 rfl ?_
      refine zn_isub dX7_fitsInBoy_32 (by omega) ?_
      refine y_callV1x (M' := M_X7_isFreeCell) dX7_fitsInBoy_33 lm_X7_42 cv_X7_isFreeCell rfl (Nat.le_of_ble_eq_true rfl) (Nat.le_of_ble_eq_true rfl) rfl (c_isFreeCell hT hk (c := t - 97) (by omega) (d + 1)) ?_
      refine z_goto (tgt := 56) dX7_fitsInBoy_36 (by decide) ?_
      exact y_zreturn dX7_fitsInBoy_56 rfl (b2i_01 _) ⟨by simp [fib, h97], rfl, rfl⟩
    · refine z_iload_n dX7_fitsInBoy_0 rfl ?_
      refine zn_if_ne (tgt := 23) dX7_fitsInBoy_1 (by decide) (by omega) (fun hc1 => ?_) (fun hc1 => by omega)
      refine z_iload_n dX7_fitsInBoy_23 rfl ?_
      refine z_iconst (v := nI 1) dX7_fitsInBoy_24 rfl ?_
      refine zn_icmp_ne (tgt := 39) dX7_fitsInBoy_25 (by decide) (by omega) (by omega) (fun hc25 => by omega) (fun hc25 => ?_)
      refine z_aload_n dX7_fitsInBoy_28 rfl ?_
      refine z_iload_n dX7_fitsInBoy_29 rfl ?_
      refine z_bipush (v := nI 97) dX7_fitsInBoy_30 rfl ?_
      refine z_isub dX7_fitsInBoy_32 ?_
      refine y_callV1x (M' := M_X7_isFreeCell) dX7_fitsInBoy_33 lm_X7_42 cv_X7_isFreeCell rfl (Nat.le_of_ble_eq_true rfl) (Nat.le_of_ble_eq_true rfl) rfl (c_isFreeCellN (pk_sneg (by omega) (by omega)) (d + 1)) ?_
      refine z_goto (tgt := 56) dX7_fitsInBoy_36 (by decide) ?_
      exact y_zreturn dX7_fitsInBoy_56 rfl (b2i_01 _) ⟨by simp [fib, h97], rfl, rfl⟩
  · refine z_iload_n dX7_fitsInBoy_0 rfl ?_
    refine zn_if_ne (tgt := 23) dX7_fitsInBoy_1 (by decide) (by omega) (fun hc1 => ?_) (fun hc1 => by omega)
    refine z_iload_n dX7_fitsInBoy_23 rfl ?_
    refine z_iconst (v := nI 1) dX7_fitsInBoy_24 rfl ?_
    refine zn_icmp_ne (tgt := 39) dX7_fitsInBoy_25 (by decide) (by omega) (by omega) (fun hc25 => ?_) (fun hc25 => by omega)
    refine z_iload_n dX7_fitsInBoy_39 rfl ?_
    refine z_bipush (v := nI 48) dX7_fitsInBoy_40 rfl ?_
    refine zn_icmp_lt (tgt := 55) dX7_fitsInBoy_42 (by decide) (by omega) (by omega) (fun hc42 => ?_) (fun hc42 => ?_)
    · refine z_iconst (v := nI 0) dX7_fitsInBoy_55 rfl ?_
      exact y_zreturn dX7_fitsInBoy_56 rfl (by first | exact Or.inl rfl | exact Or.inr rfl | assumption) ⟨by rw [b2i_f]; simp [fib]; omega, rfl, rfl⟩
    · refine z_iload_n dX7_fitsInBoy_45 rfl ?_
      refine z_bipush (v := nI 51) dX7_fitsInBoy_46 rfl ?_
      refine zn_icmp_gt (tgt := 55) dX7_fitsInBoy_48 (by decide) (by omega) (by omega) (fun hc48 => ?_) (fun hc48 => ?_)
      · refine z_iconst (v := nI 0) dX7_fitsInBoy_55 rfl ?_
        exact y_zreturn dX7_fitsInBoy_56 rfl (by first | exact Or.inl rfl | exact Or.inr rfl | assumption) ⟨by rw [b2i_f]; simp [fib]; omega, rfl, rfl⟩
      · refine z_iconst (v := nI 1) dX7_fitsInBoy_51 rfl ?_
        refine z_goto (tgt := 56) dX7_fitsInBoy_52 (by decide) ?_
        exact y_zreturn dX7_fitsInBoy_56 rfl (by first | exact Or.inl rfl | exact Or.inr rfl | assumption) ⟨by rw [b2i_t]; simp [fib]; omega, rfl, rfl⟩
set_option maxRecDepth 4000 in
theorem c_fits {X : zX} {mu : zmu} {nu : znu} {T : Nat → Nat} {len i : Nat} (hT : TFc T len mu) (hi : i < 48) (hv : 4 ≤ i → Tok T) (d : Nat) : zJ X M_X7_fits (d + 5) 0 0 0 [.ref 1, .int (nI i), zu, zu] [] 86 (zEE (mu) nu) (zlift (zex (some (.int (b2i (fitc T i)))) (mu) nu)) := by
  have hTi := hT.2.2 i hi
  have hT2 := hT.2.2 2 (by decide)
  refine z_aload_n dX7_fits_0 rfl ?_
  refine y_getR dX7_fits_1 lf_X7_9 rfl rfl ?_
  refine z_iload_n dX7_fits_4 rfl ?_
  refine y_ialde dX7_fits_5 rfl (by decide) (by omega) hTi.1 ?_
  refine z_istore2 dX7_fits_6 rfl ?_
  refine z_iload_n dX7_fits_7 rfl ?_
  by_cases h3 : i ≤ 3
  · obtain rfl | rfl | rfl | rfl : i = 0 ∨ i = 1 ∨ i = 2 ∨ i = 3 := by omega
    · refine z_tableIn (off := 32) (tgt := 40) dX7_fits_8 (by decide) (by decide) rfl (by decide) ?_
      refine z_iload_n dX7_fits_40 rfl ?_
      refine z_bipush (v := nI 87) dX7_fits_41 rfl ?_
      refine zn_icmp_ne (tgt := 50) dX7_fits_43 (by decide) (by omega) (by omega) (fun hc43 => ?_) (fun hc43 => ?_)
      · refine z_iconst (v := nI 0) dX7_fits_50 rfl ?_
        exact y_zreturn dX7_fits_51 rfl (by first | exact Or.inl rfl | exact Or.inr rfl | assumption) ⟨by rw [b2i_f]; simp [fitc]; omega, rfl, rfl⟩
      · refine z_iconst (v := nI 1) dX7_fits_46 rfl ?_
        refine z_goto (tgt := 51) dX7_fits_47 (by decide) ?_
        exact y_zreturn dX7_fits_51 rfl (by first | exact Or.inl rfl | exact Or.inr rfl | assumption) ⟨by rw [b2i_t]; simp [fitc]; omega, rfl, rfl⟩
    · refine z_tableIn (off := 44) (tgt := 52) dX7_fits_8 (by decide) (by decide) rfl (by decide) ?_
      refine z_iload_n dX7_fits_52 rfl ?_
      refine z_bipush (v := nI 50) dX7_fits_53 rfl ?_
      refine zn_icmp_lt (tgt := 68) dX7_fits_55 (by decide) (by omega) (by omega) (fun hc55 => ?_) (fun hc55 => ?_)
      · refine z_iconst (v := nI 0) dX7_fits_68 rfl ?_
        exact y_zreturn dX7_fits_69 rfl (by first | exact Or.inl rfl | exact Or.inr rfl | assumption) ⟨by rw [b2i_f]; simp [fitc]; omega, rfl, rfl⟩
      · refine z_iload_n dX7_fits_58 rfl ?_
        refine z_bipush (v := nI 53) dX7_fits_59 rfl ?_
        refine zn_icmp_gt (tgt := 68) dX7_fits_61 (by decide) (by omega) (by omega) (fun hc61 => ?_) (fun hc61 => ?_)
        · refine z_iconst (v := nI 0) dX7_fits_68 rfl ?_
          exact y_zreturn dX7_fits_69 rfl (by first | exact Or.inl rfl | exact Or.inr rfl | assumption) ⟨by rw [b2i_f]; simp [fitc]; omega, rfl, rfl⟩
        · refine z_iconst (v := nI 1) dX7_fits_64 rfl ?_
          refine z_goto (tgt := 69) dX7_fits_65 (by decide) ?_
          exact y_zreturn dX7_fits_69 rfl (by first | exact Or.inl rfl | exact Or.inr rfl | assumption) ⟨by rw [b2i_t]; simp [fitc]; omega, rfl, rfl⟩
    · refine z_tableIn (off := 62) (tgt := 70) dX7_fits_8 (by decide) (by decide) rfl (by decide) ?_
      refine z_iload_n dX7_fits_70 rfl ?_
      refine z_bipush (v := nI 50) dX7_fits_71 rfl ?_
      refine zn_icmp_lt (tgt := 86) dX7_fits_73 (by decide) (by omega) (by omega) (fun hc73 => ?_) (fun hc73 => ?_)
      · refine z_iconst (v := nI 0) dX7_fits_86 rfl ?_
        exact y_zreturn dX7_fits_87 rfl (by first | exact Or.inl rfl | exact Or.inr rfl | assumption) ⟨by rw [b2i_f]; simp [fitc]; omega, rfl, rfl⟩
      · refine z_iload_n dX7_fits_76 rfl ?_
        refine z_bipush (v := nI 52) dX7_fits_77 rfl ?_
        refine zn_icmp_gt (tgt := 86) dX7_fits_79 (by decide) (by omega) (by omega) (fun hc79 => ?_) (fun hc79 => ?_)
        · refine z_iconst (v := nI 0) dX7_fits_86 rfl ?_
          exact y_zreturn dX7_fits_87 rfl (by first | exact Or.inl rfl | exact Or.inr rfl | assumption) ⟨by rw [b2i_f]; simp [fitc]; omega, rfl, rfl⟩
        · refine z_iconst (v := nI 1) dX7_fits_82 rfl ?_
          refine z_goto (tgt := 87) dX7_fits_83 (by decide) ?_
          exact y_zreturn dX7_fits_87 rfl (by first | exact Or.inl rfl | exact Or.inr rfl | assumption) ⟨by rw [b2i_t]; simp [fitc]; omega, rfl, rfl⟩
    · refine z_tableIn (off := 80) (tgt := 88) dX7_fits_8 (by decide) (by decide) rfl (by decide) ?_
      refine z_iload_n dX7_fits_88 rfl ?_
      refine z_bipush (v := nI 48) dX7_fits_89 rfl ?_
      refine zn_icmp_lt (tgt := 108) dX7_fits_91 (by decide) (by omega) (by omega) (fun hc91 => ?_) (fun hc91 => ?_)
      · refine z_iconst (v := nI 0) dX7_fits_108 rfl ?_
        exact y_zreturn dX7_fits_109 rfl (by first | exact Or.inl rfl | exact Or.inr rfl | assumption) ⟨by rw [b2i_f]; simp [fitc]; omega, rfl, rfl⟩
      · refine z_iload_n dX7_fits_94 rfl ?_
        refine z_aload_n dX7_fits_95 rfl ?_
        refine y_getR dX7_fits_96 lf_X7_9 rfl rfl ?_
        refine z_iconst (v := nI 2) dX7_fits_99 rfl ?_
        refine y_ialde dX7_fits_100 rfl (by decide) (by omega) hT2.1 ?_
        refine zn_icmp_ge (tgt := 108) dX7_fits_101 (by decide) (by omega) (by omega) (fun hc101 => ?_) (fun hc101 => ?_)
        · refine z_iconst (v := nI 0) dX7_fits_108 rfl ?_
          exact y_zreturn dX7_fits_109 rfl (by first | exact Or.inl rfl | exact Or.inr rfl | assumption) ⟨by rw [b2i_f]; simp [fitc]; omega, rfl, rfl⟩
        · refine z_iconst (v := nI 1) dX7_fits_104 rfl ?_
          refine z_goto (tgt := 109) dX7_fits_105 (by decide) ?_
          exact y_zreturn dX7_fits_109 rfl (by first | exact Or.inl rfl | exact Or.inr rfl | assumption) ⟨by rw [b2i_t]; simp [fitc]; omega, rfl, rfl⟩
  · have h4 : 4 ≤ i := by omega
    have hk := hv h4
    have h20 := tn_20 hk
    refine z_tableOut (tgt := 110) dX7_fits_8 (by rw [nI_toInt (by omega)]; omega) (by decide) ?_
    have e4 : fitc T i = if i - 4 < tn T then (knd (T i)).isSome else (decide (i - 4 - tn T < 15) && fib T ((i - 4 - tn T) % 3) (T i)) := by
      unfold fitc; rw [if_neg (by omega), if_neg (by omega), if_neg (by omega), if_neg (by omega)]
    by_cases hlt : i - 4 < tn T
    · rw [if_pos hlt] at e4
      refine z_iload_n dX7_fits_110 rfl ?_
      refine z_iconst (v := nI 4) dX7_fits_111 rfl ?_
      refine zn_isub dX7_fits_112 (by omega) ?_
      refine z_aload_n dX7_fits_113 rfl ?_
      refine y_callV0x (M' := M_X7_cells) dX7_fits_114 lm_X7_27 cv_X7_cells rfl (Nat.le_of_ble_eq_true rfl) (Nat.le_of_ble_eq_true rfl) rfl (c_cells hT hk (d + 3)) ?_
      refine z_isub dX7_fits_117 ?_
      refine z_istore3 dX7_fits_118 rfl ?_
      refine z_iload_n dX7_fits_119 rfl ?_
      refine z_if_ge (tgt := 138) dX7_fits_120 (by decide) (fun hc120 => by exact absurd (pk_sneg (by omega) hlt) (Int32.not_lt.mpr hc120)) (fun hc120 => ?_)
      refine z_iload_n dX7_fits_123 rfl ?_
      refine y_callS1x (M' := M_X7_kindOf) dX7_fits_124 lm_X7_31 cs_X7_kindOf (Nat.le_of_ble_eq_true rfl) (Nat.le_of_ble_eq_true rfl) rfl (c_kindOf hTi.2 (d + 4)) ?_
      refine z_bipush (v := -9) dX7_fits_127 rfl ?_
      refine z_icmp_eq (tgt := 136) dX7_fits_129 (by decide) (fun hc129 => ?_) (fun hc129 => ?_)
      · refine z_iconst (v := nI 0) dX7_fits_136 rfl ?_
        exact y_zreturn dX7_fits_137 rfl (by first | exact Or.inl rfl | exact Or.inr rfl | assumption) ⟨by rw [b2i_f (by rw [e4]; cases hx : knd (T i) with | none => rfl | some q => rw [hx] at hc129; exact absurd hc129 (nI_m9 (by have := knd_lt hx; omega)))], rfl, rfl⟩
      · refine z_iconst (v := nI 1) dX7_fits_132 rfl ?_
        refine z_goto (tgt := 137) dX7_fits_133 (by decide) ?_
        exact y_zreturn dX7_fits_137 rfl (by first | exact Or.inl rfl | exact Or.inr rfl | assumption) ⟨by rw [b2i_t (by rw [e4]; cases hx : knd (T i) with | none => rw [hx] at hc129; exact absurd rfl hc129 | some q => rfl)], rfl, rfl⟩
    · rw [if_neg hlt] at e4
      refine z_iload_n dX7_fits_110 rfl ?_
      refine z_iconst (v := nI 4) dX7_fits_111 rfl ?_
      refine zn_isub dX7_fits_112 (by omega) ?_
      refine z_aload_n dX7_fits_113 rfl ?_
      refine y_callV0x (M' := M_X7_cells) dX7_fits_114 lm_X7_27 cv_X7_cells rfl (Nat.le_of_ble_eq_true rfl) (Nat.le_of_ble_eq_true rfl) rfl (c_cells hT hk (d + 3)) ?_
      refine zn_isub dX7_fits_117 (by omega) ?_
      refine z_istore3 dX7_fits_118 rfl ?_
      refine z_iload_n dX7_fits_119 rfl ?_
      refine zn_if_ge (tgt := 138) dX7_fits_120 (by decide) (by omega) ?_
      refine z_iload_n dX7_fits_138 rfl ?_
      refine z_bipush (v := nI 15) dX7_fits_139 rfl ?_
      refine zn_icmp_ge (tgt := 159) dX7_fits_141 (by decide) (by omega) (by omega) (fun hc141 => ?_) (fun hc141 => ?_)
      · refine z_iconst (v := nI 0) dX7_fits_159 rfl ?_
        exact y_zreturn dX7_fits_160 rfl (by first | exact Or.inl rfl | exact Or.inr rfl | assumption) ⟨by rw [b2i_f (by rw [e4]; simp; omega)], rfl, rfl⟩
      · refine z_aload_n dX7_fits_144 rfl ?_
        refine z_iload_n dX7_fits_145 rfl ?_
        refine z_iconst (v := nI 3) dX7_fits_146 rfl ?_
        refine zn_irem dX7_fits_147 (by omega) (by omega) (by omega) ?_
        refine z_iload_n dX7_fits_148 rfl ?_
        refine y_callV2x (M' := M_X7_fitsInBoy) dX7_fits_149 lm_X7_35 cv_X7_fitsInBoy rfl (Nat.le_of_ble_eq_true rfl) (Nat.le_of_ble_eq_true rfl) rfl (c_fitsInBoy hT hk (r := (i - 4 - tn T) % 3) (by omega) hTi.2 d) ?_
        refine zb_if_eq (tgt := 159) dX7_fits_152 (by decide) (fun hc152 => ?_) (fun hc152 => ?_)
        · refine z_iconst (v := nI 0) dX7_fits_159 rfl ?_
          exact y_zreturn dX7_fits_160 rfl (by first | exact Or.inl rfl | exact Or.inr rfl | assumption) ⟨by rw [b2i_f (by rw [e4, hc152]; simp)], rfl, rfl⟩
        · refine z_iconst (v := nI 1) dX7_fits_155 rfl ?_
          refine z_goto (tgt := 160) dX7_fits_156 (by decide) ?_
          exact y_zreturn dX7_fits_160 rfl (by first | exact Or.inl rfl | exact Or.inr rfl | assumption) ⟨by rw [b2i_t (by rw [e4, hc152]; simp; omega)], rfl, rfl⟩
set_option maxRecDepth 4000 in
theorem c_isWhole {X : zX} {mu : zmu} {nu : znu} {T : Nat → Nat} {len : Nat} (hT : TFc T len mu) (hv : 4 ≤ len → Tok T) (d : Nat) : zJ X M_X7_isWhole (d + 2) 0 0 0 [.ref 1, zu] [] 86 (zEE (mu) nu) (zlift (zex (some (.int (b2i (whl T len)))) (mu) nu)) := by
  have hl := hT.2.1
  by_cases h4 : 4 ≤ len
  · have hk := hv h4
    have h20 := tn_20 hk
    by_cases hle : 4 + tn T ≤ len
    · refine z_aload_n dX7_isWhole_0 rfl ?_
      refine y_getIe dX7_isWhole_1 lf_X7_15 rfl rfl hT.1 ?_
      refine z_iconst (v := nI 4) dX7_isWhole_4 rfl ?_
      refine zn_icmp_ge (tgt := 10) dX7_isWhole_5 (by decide) (by omega) (by omega) (fun hc5 => ?_) (fun hc5 => by omega)
      refine z_aload_n dX7_isWhole_10 rfl ?_
      refine y_getIe dX7_isWhole_11 lf_X7_15 rfl rfl hT.1 ?_
      refine z_iconst (v := nI 4) dX7_isWhole_14 rfl ?_
      refine zn_isub dX7_isWhole_15 (by omega) ?_
      refine z_aload_n dX7_isWhole_16 rfl ?_
      refine y_callV0x (M' := M_X7_cells) dX7_isWhole_17 lm_X7_27 cv_X7_cells rfl (Nat.le_of_ble_eq_true rfl) (Nat.le_of_ble_eq_true rfl) rfl (c_cells hT hk d) ?_
      refine zn_isub dX7_isWhole_20 (by omega) ?_
      refine z_istore1 dX7_isWhole_21 rfl ?_
      refine z_iload_n dX7_isWhole_22 rfl ?_
      refine zn_if_lt (tgt := 36) dX7_isWhole_23 (by decide) (by omega) ?_
      refine z_iload_n dX7_isWhole_26 rfl ?_
      refine z_iconst (v := nI 3) dX7_isWhole_27 rfl ?_
      refine zn_irem dX7_isWhole_28 (by omega) (by omega) (by omega) ?_
      refine zn_if_ne (tgt := 36) dX7_isWhole_29 (by decide) (by omega) (fun hc29 => ?_) (fun hc29 => ?_)
      · refine z_iconst (v := nI 0) dX7_isWhole_36 rfl ?_
        exact y_zreturn dX7_isWhole_37 rfl (by first | exact Or.inl rfl | exact Or.inr rfl | assumption) ⟨by rw [b2i_f]; simp [whl]; omega, rfl, rfl⟩
      · refine z_iconst (v := nI 1) dX7_isWhole_32 rfl ?_
        refine z_goto (tgt := 37) dX7_isWhole_33 (by decide) ?_
        exact y_zreturn dX7_isWhole_37 rfl (by first | exact Or.inl rfl | exact Or.inr rfl | assumption) ⟨by rw [b2i_t]; simp [whl]; omega, rfl, rfl⟩
    · refine z_aload_n dX7_isWhole_0 rfl ?_
      refine y_getIe dX7_isWhole_1 lf_X7_15 rfl rfl hT.1 ?_
      refine z_iconst (v := nI 4) dX7_isWhole_4 rfl ?_
      refine zn_icmp_ge (tgt := 10) dX7_isWhole_5 (by decide) (by omega) (by omega) (fun hc5 => ?_) (fun hc5 => by omega)
      refine z_aload_n dX7_isWhole_10 rfl ?_
      refine y_getIe dX7_isWhole_11 lf_X7_15 rfl rfl hT.1 ?_
      refine z_iconst (v := nI 4) dX7_isWhole_14 rfl ?_
      refine zn_isub dX7_isWhole_15 (by omega) ?_
      refine z_aload_n dX7_isWhole_16 rfl ?_
      refine y_callV0x (M' := M_X7_cells) dX7_isWhole_17 lm_X7_27 cv_X7_cells rfl (Nat.le_of_ble_eq_true rfl) (Nat.le_of_ble_eq_true rfl) rfl (c_cells hT hk d) ?_
      refine z_isub dX7_isWhole_20 ?_
      refine z_istore1 dX7_isWhole_21 rfl ?_
      refine z_iload_n dX7_isWhole_22 rfl ?_
      refine z_if_lt (tgt := 36) dX7_isWhole_23 (by decide) (fun hc23 => ?_) (fun hc23 => by exact absurd (pk_sneg (by omega) (by omega)) hc23)
      refine z_iconst (v := nI 0) dX7_isWhole_36 rfl ?_
      exact y_zreturn dX7_isWhole_37 rfl (by first | exact Or.inl rfl | exact Or.inr rfl | assumption) ⟨by rw [b2i_f]; simp [whl]; omega, rfl, rfl⟩
  · refine z_aload_n dX7_isWhole_0 rfl ?_
    refine y_getIe dX7_isWhole_1 lf_X7_15 rfl rfl hT.1 ?_
    refine z_iconst (v := nI 4) dX7_isWhole_4 rfl ?_
    refine zn_icmp_ge (tgt := 10) dX7_isWhole_5 (by decide) (by omega) (by omega) (fun hc5 => by omega) (fun hc5 => ?_)
    refine z_iconst (v := nI 0) dX7_isWhole_8 rfl ?_
    exact y_zreturn dX7_isWhole_9 rfl (by first | exact Or.inl rfl | exact Or.inr rfl | assumption) ⟨by rw [b2i_f]; simp [whl]; omega, rfl, rfl⟩
theorem flt_some {T : Nat → Nat} {len i : Nat} (hi : i < len) (h : fitc T i = false) (hb : ∀ j, j < i → fitc T j = true) : flt T len = nI i := by
  have : (List.range len).find? (fun i => !fitc T i) = some i := by
    rw [List.find?_range_eq_some]
    exact ⟨by simp [h], List.mem_range.mpr hi, fun j hj => by simp [hb j hj]⟩
  simp [flt, this]
theorem flt_none {T : Nat → Nat} {len : Nat} (hb : ∀ j, j < len → fitc T j = true) : flt T len = if whl T len = true then -9 else nI len := by
  have : (List.range len).find? (fun i => !fitc T i) = none := by
    rw [List.find?_range_eq_none]
    exact fun j hj => by simp [hb j hj]
  simp [flt, this]
theorem Tok_of {T : Nat → Nat} {i : Nat} (hb : ∀ j, j < i → fitc T j = true) (h : 4 ≤ i) : Tok T := by
  have h1 := hb 1 (by omega)
  have h2 := hb 2 (by omega)
  simp [fitc] at h1 h2
  exact ⟨h1.1, h1.2, h2.1, h2.2⟩
set_option maxRecDepth 4000 in
theorem c_firstFault_l {X : zX} {mu : zmu} {nu : znu} {T : Nat → Nat} {len : Nat} (hT : TFc T len mu) (d : Nat) : ∀ n i, i + n = len → (∀ j, j < i → fitc T j = true) → zJ X M_X7_firstFault (d + 6) 0 0 2 [.ref 1, .int (nI i)] [] 86 (zEE (mu) nu) (zlift (zex (some (.int (flt T len))) (mu) nu)) := by
  have hl := hT.2.1
  intro n
  induction n with
  | zero =>
    intro i hi hb
    obtain rfl : i = len := by omega
    refine z_iload_n dX7_firstFault_2 rfl ?_
    refine z_aload_n dX7_firstFault_3 rfl ?_
    refine y_getIe dX7_firstFault_4 lf_X7_15 rfl rfl hT.1 ?_
    refine zn_icmp_ge (tgt := 32) dX7_firstFault_7 (by decide) (by omega) (by omega) (fun hc7 => ?_) (fun hc7 => by omega)
    refine z_aload_n dX7_firstFault_32 rfl ?_
    refine y_callV0x (M' := M_X7_isWhole) dX7_firstFault_33 lm_X7_23 cv_X7_isWhole rfl (Nat.le_of_ble_eq_true rfl) (Nat.le_of_ble_eq_true rfl) rfl (c_isWhole hT (fun h => Tok_of hb h) (d + 3)) ?_
    refine zb_if_eq (tgt := 44) dX7_firstFault_36 (by decide) (fun hc36 => ?_) (fun hc36 => ?_)
    · refine z_aload_n dX7_firstFault_44 rfl ?_
      refine y_getIe dX7_firstFault_45 lf_X7_15 rfl rfl hT.1 ?_
      exact y_ireturn dX7_firstFault_48 rfl ⟨by rw [flt_none hb, if_neg (by rw [hc36]; decide)], rfl, rfl⟩
    · refine z_bipush (v := -9) dX7_firstFault_39 rfl ?_
      refine z_goto (tgt := 48) dX7_firstFault_41 (by decide) ?_
      exact y_ireturn dX7_firstFault_48 rfl ⟨by rw [flt_none hb, if_pos hc36], rfl, rfl⟩
  | succ n ih =>
    intro i hi hb
    refine z_iload_n dX7_firstFault_2 rfl ?_
    refine z_aload_n dX7_firstFault_3 rfl ?_
    refine y_getIe dX7_firstFault_4 lf_X7_15 rfl rfl hT.1 ?_
    refine zn_icmp_ge (tgt := 32) dX7_firstFault_7 (by decide) (by omega) (by omega) (fun hc7 => by omega) (fun hc7 => ?_)
    refine z_iload_n dX7_firstFault_10 rfl ?_
    refine z_bipush (v := nI 48) dX7_firstFault_11 rfl ?_
    refine zn_icmp_ge (tgt := 32) dX7_firstFault_13 (by decide) (by omega) (by omega) (fun hc13 => by omega) (fun hc13 => ?_)
    refine z_aload_n dX7_firstFault_16 rfl ?_
    refine z_iload_n dX7_firstFault_17 rfl ?_
    refine y_callV1x (M' := M_X7_fits) dX7_firstFault_18 lm_X7_19 cv_X7_fits rfl (Nat.le_of_ble_eq_true rfl) (Nat.le_of_ble_eq_true rfl) rfl (c_fits hT (i := i) (by omega) (fun h => Tok_of hb h) d) ?_
    refine zb_if_ne (tgt := 26) dX7_firstFault_21 (by decide) (fun hc21 => ?_) (fun hc21 => ?_)
    · refine zn_iinc1 dX7_firstFault_26 rfl ?_
      refine z_goto (tgt := 2) dX7_firstFault_29 (by decide) ?_
      exact ih (i + 1) (by omega) (fun j hj => by rcases Nat.lt_or_ge j i with g | g; exact hb j g; rw [show j = i by omega]; exact hc21)
    · refine z_iload_n dX7_firstFault_24 rfl ?_
      exact y_ireturn dX7_firstFault_25 rfl ⟨by rw [flt_some (by omega) hc21 hb], rfl, rfl⟩
set_option maxRecDepth 4000 in
theorem c_firstFault {X : zX} {mu : zmu} {nu : znu} {T : Nat → Nat} {len : Nat} (hT : TFc T len mu) (d : Nat) : zJ X M_X7_firstFault (d + 6) 0 0 0 [.ref 1, zu] [] 86 (zEE (mu) nu) (zlift (zex (some (.int (flt T len))) (mu) nu)) := by
  refine z_iconst (v := nI 0) dX7_firstFault_0 rfl ?_
  refine z_istore1 dX7_firstFault_1 rfl ?_
  exact c_firstFault_l hT d len 0 (by omega) (fun j hj => by omega)
set_option maxRecDepth 4000 in
theorem c_add {X : zX} {mu : zmu} {nu : znu} {T : Nat → Nat} {len t : Nat} (hT : TFc T len mu) (d : Nat) : zJ X M_X7_add d 0 0 0 [.ref 1, .int (nI t)] [] 86 (zEE (mu) nu) (zlift (zex (some (.int (b2i (decide (len < 48))))) (if len < 48 then u2 (u2 mu 2 len (nI t)) 1 1 (nI (len + 1)) else mu) nu)) := by
  have hl := hT.2.1
  refine z_aload_n dX7_add_0 rfl ?_
  refine y_getIe dX7_add_1 lf_X7_15 rfl rfl hT.1 ?_
  refine z_bipush (v := nI 48) dX7_add_4 rfl ?_
  refine zn_icmp_lt (tgt := 11) dX7_add_6 (by decide) (by omega) (by omega) (fun hc6 => ?_) (fun hc6 => ?_)
  · refine z_aload_n dX7_add_11 rfl ?_
    refine y_getR dX7_add_12 lf_X7_9 rfl rfl ?_
    refine z_aload_n dX7_add_15 rfl ?_
    refine y_getIe dX7_add_16 lf_X7_15 rfl rfl hT.1 ?_
    refine z_iload_n dX7_add_19 rfl ?_
    refine y_iast dX7_add_20 rfl (by decide) (by omega) ?_
    refine z_aload_n dX7_add_21 rfl ?_
    refine z_dup dX7_add_22 rfl ?_
    refine y_getIe dX7_add_23 lf_X7_15 rfl rfl ((u2_a (by decide)).trans hT.1) ?_
    refine z_iconst (v := nI 1) dX7_add_26 rfl ?_
    refine zn_iadd dX7_add_27 ?_
    refine y_putI dX7_add_28 lp_X7_15 rfl rfl ?_
    refine z_iconst (v := nI 1) dX7_add_31 rfl ?_
    exact y_zreturn dX7_add_32 rfl (by first | exact Or.inl rfl | exact Or.inr rfl | assumption) ⟨by rw [b2i_t]; simp [hc6], by rw [if_pos hc6], rfl⟩
  · refine z_iconst (v := nI 0) dX7_add_9 rfl ?_
    exact y_zreturn dX7_add_10 rfl (by first | exact Or.inl rfl | exact Or.inr rfl | assumption) ⟨by rw [b2i_f]; simp; omega, by rw [if_neg (by omega)], rfl⟩
set_option maxRecDepth 4000 in
theorem c_boys {X : zX} {mu : zmu} {nu : znu} {T : Nat → Nat} {len : Nat} (hT : TFc T len mu) (hk : Tok T) (hle : 4 + tn T ≤ len) (d : Nat) : zJ X M_X7_boys (d + 2) 0 0 0 [.ref 1] [] 86 (zEE (mu) nu) (zlift (zex (some (.int (nI ((len - 4 - tn T) / 3)))) (mu) nu)) := by
  have hl := hT.2.1
  have h20 := tn_20 hk
  refine z_aload_n dX7_boys_0 rfl ?_
  refine y_getIe dX7_boys_1 lf_X7_15 rfl rfl hT.1 ?_
  refine z_iconst (v := nI 4) dX7_boys_4 rfl ?_
  refine zn_isub dX7_boys_5 (by omega) ?_
  refine z_aload_n dX7_boys_6 rfl ?_
  refine y_callV0x (M' := M_X7_cells) dX7_boys_7 lm_X7_27 cv_X7_cells rfl (Nat.le_of_ble_eq_true rfl) (Nat.le_of_ble_eq_true rfl) rfl (c_cells hT hk d) ?_
  refine zn_isub dX7_boys_10 (by omega) ?_
  refine z_iconst (v := nI 3) dX7_boys_11 rfl ?_
  refine zn_idiv dX7_boys_12 (by omega) (by omega) (by omega) ?_
  exact y_ireturn dX7_boys_13 rfl ⟨rfl, rfl, rfl⟩
set_option maxRecDepth 4000 in
theorem c_kindOfCell {X : zX} {mu : zmu} {nu : znu} {T : Nat → Nat} {len c : Nat} (hT : TFc T len mu) (hc : c < 44) (d : Nat) : zJ X M_X7_kindOfCell (d + 1) 0 0 0 [.ref 1, .int (nI c)] [] 86 (zEE (mu) nu) (zlift (zex (some (.int (o9 (knd (T (4 + c)))))) (mu) nu)) := by
  refine z_aload_n dX7_kindOfCell_0 rfl ?_
  refine y_getR dX7_kindOfCell_1 lf_X7_9 rfl rfl ?_
  refine z_iconst (v := nI 4) dX7_kindOfCell_4 rfl ?_
  refine z_iload_n dX7_kindOfCell_5 rfl ?_
  refine zn_iadd dX7_kindOfCell_6 ?_
  refine y_ialde dX7_kindOfCell_7 rfl (by decide) (by omega) (hT.2.2 (4 + c) (by omega)).1 ?_
  refine y_callS1x (M' := M_X7_kindOf) dX7_kindOfCell_8 lm_X7_31 cs_X7_kindOf (Nat.le_of_ble_eq_true rfl) (Nat.le_of_ble_eq_true rfl) rfl (c_kindOf (hT.2.2 (4 + c) (by omega)).2 d) ?_
  exact y_ireturn dX7_kindOfCell_11 rfl ⟨rfl, rfl, rfl⟩
set_option maxRecDepth 4000 in
theorem c_homeOfBoy {X : zX} {mu : zmu} {nu : znu} {T : Nat → Nat} {len b : Nat} (hT : TFc T len mu) (hk : Tok T) (hb : 4 + tn T + b * 3 + 1 < 48) (h97 : 97 ≤ T (4 + tn T + b * 3 + 1)) (d : Nat) : zJ X M_X7_homeOfBoy (d + 2) 0 0 0 [.ref 1, .int (nI b)] [] 86 (zEE (mu) nu) (zlift (zex (some (.int (nI (T (4 + tn T + b * 3 + 1) - 97)))) (mu) nu)) := by
  have h20 := tn_20 hk
  refine z_aload_n dX7_homeOfBoy_0 rfl ?_
  refine y_getR dX7_homeOfBoy_1 lf_X7_9 rfl rfl ?_
  refine z_iconst (v := nI 4) dX7_homeOfBoy_4 rfl ?_
  refine z_aload_n dX7_homeOfBoy_5 rfl ?_
  refine y_callV0x (M' := M_X7_cells) dX7_homeOfBoy_6 lm_X7_27 cv_X7_cells rfl (Nat.le_of_ble_eq_true rfl) (Nat.le_of_ble_eq_true rfl) rfl (c_cells hT hk d) ?_
  refine zn_iadd dX7_homeOfBoy_9 ?_
  refine z_iload_n dX7_homeOfBoy_10 rfl ?_
  refine z_iconst (v := nI 3) dX7_homeOfBoy_11 rfl ?_
  refine zn_imul dX7_homeOfBoy_12 ?_
  refine zn_iadd dX7_homeOfBoy_13 ?_
  refine z_iconst (v := nI 1) dX7_homeOfBoy_14 rfl ?_
  refine zn_iadd dX7_homeOfBoy_15 ?_
  refine y_ialde dX7_homeOfBoy_16 rfl (by decide) (by omega) (hT.2.2 _ hb).1 ?_
  refine z_bipush (v := nI 97) dX7_homeOfBoy_17 rfl ?_
  refine zn_isub dX7_homeOfBoy_19 (by omega) ?_
  exact y_ireturn dX7_homeOfBoy_20 rfl ⟨rfl, rfl, rfl⟩
set_option maxRecDepth 4000 in
theorem c_kindOfBoy {X : zX} {mu : zmu} {nu : znu} {T : Nat → Nat} {len b : Nat} (hT : TFc T len mu) (hk : Tok T) (hb : 4 + tn T + b * 3 + 2 < 48) (h48 : 48 ≤ T (4 + tn T + b * 3 + 2)) (d : Nat) : zJ X M_X7_kindOfBoy (d + 2) 0 0 0 [.ref 1, .int (nI b)] [] 86 (zEE (mu) nu) (zlift (zex (some (.int (nI (T (4 + tn T + b * 3 + 2) - 48)))) (mu) nu)) := by
  have h20 := tn_20 hk
  refine z_aload_n dX7_kindOfBoy_0 rfl ?_
  refine z_iconst (v := nI 4) dX7_kindOfBoy_1 rfl ?_
  refine z_aload_n dX7_kindOfBoy_2 rfl ?_
  refine y_callV0x (M' := M_X7_cells) dX7_kindOfBoy_3 lm_X7_27 cv_X7_cells rfl (Nat.le_of_ble_eq_true rfl) (Nat.le_of_ble_eq_true rfl) rfl (c_cells hT hk d) ?_
  refine zn_iadd dX7_kindOfBoy_6 ?_
  refine z_iload_n dX7_kindOfBoy_7 rfl ?_
  refine z_iconst (v := nI 3) dX7_kindOfBoy_8 rfl ?_
  refine zn_imul dX7_kindOfBoy_9 ?_
  refine zn_iadd dX7_kindOfBoy_10 ?_
  refine z_iconst (v := nI 2) dX7_kindOfBoy_11 rfl ?_
  refine zn_iadd dX7_kindOfBoy_12 ?_
  refine y_callV1x (M' := M_X7_figure) dX7_kindOfBoy_13 lm_X7_45 cv_X7_figure rfl (Nat.le_of_ble_eq_true rfl) (Nat.le_of_ble_eq_true rfl) rfl (c_figure hT hb h48 (d + 1)) ?_
  exact y_ireturn dX7_kindOfBoy_16 rfl ⟨rfl, rfl, rfl⟩
