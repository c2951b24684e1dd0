theorem i32_a (a b : Int32) : a + (b - 1) = a + b - 1 := by grind
theorem i32_r (a b c d e : Int32) : a + (b - 1) * c - d + e = (a + b * c + e) - (c + d) := by grind
theorem stp_x {w h dd pl y : Nat} (hy : y < 2) : stp w h dd pl y = if 1 ≤ pl / 20 % 7 + shn w h (pl % 20) y ∧ pl / 20 % 7 + shn w h (pl % 20) y ≤ 7 then some (nbc w h dd (pl % 20) y + 20 * (pl / 20 % 7 + shn w h (pl % 20) y - 1) + 140 * (pl / 140)) else none := by simp [stp, hy]
theorem stp_z {w h dd pl y : Nat} (hy : ¬ y < 2) : stp w h dd pl y = if 1 ≤ pl / 140 + shn w h (pl % 20) y ∧ pl / 140 + shn w h (pl % 20) y ≤ 7 then some (nbc w h dd (pl % 20) y + 20 * (pl / 20 % 7) + 140 * (pl / 140 + shn w h (pl % 20) y - 1)) else none := by simp [stp, hy]
set_option maxRecDepth 4000 in
theorem c_placeBeside {X : zX} {mu : zmu} {nu : znu} {p : PT} {pl y : Nat} (hp : PV p) (hP : PFc p mu) (hpl : pl < 980) (hc : pl % 20 < pw p * ph p) (hy : y < 4) (s : Bool) (d : Nat) : zJ X M_X3_placeBeside (d + 1) 0 0 0 [.ref 3, .int (nI pl), .int (nI y), .int (b2i s), zu, zu, zu, zu, zu] [] 86 (zEE mu nu) (zlift (zex (some (.int (oI (stp (pw p) (ph p) (if s = true then 0 else pd p) pl y)))) (mu) nu)) := by
  have h20 := hp.n20
  have hS := (hP.2.2.2.2.2.2.2 (pl % 20) y hc hy).2.2
  have hdd : (if s = true then 0 else pd p) < ph p := by have := hp.2.2.2.2.1; split <;> omega
  have hn := nbc_lt hp hdd hc hy
  have hsn := shn_le (pw p) (ph p) (pl % 20) y
  obtain rfl | rfl | rfl | rfl : y = 0 ∨ y = 1 ∨ y = 2 ∨ y = 3 := by omega
  · refine z_iload_n dX3_placeBeside_0 rfl ?_
    refine y_callSN1x (M' := M_X8_cellOf) dX3_placeBeside_1 ln_X3_87 cs_X8_cellOf (Nat.le_of_ble_eq_true rfl) (Nat.le_of_ble_eq_true rfl) rfl (c_cellOf pl (by omega) d) ?_
    refine z_istore4 dX3_placeBeside_4 rfl ?_
    refine z_aload_n dX3_placeBeside_6 rfl ?_
    refine y_getR dX3_placeBeside_7 lf_X3_34 rfl rfl ?_
    refine z_iload dX3_placeBeside_10 rfl ?_
    refine z_iconst (v := nI 4) dX3_placeBeside_12 rfl ?_
    refine zn_imul dX3_placeBeside_13 ?_
    refine z_iload_n dX3_placeBeside_14 rfl ?_
    refine zn_iadd dX3_placeBeside_15 ?_
    refine y_ialde dX3_placeBeside_16 rfl (by decide) (by omega) hS ?_
    refine z_istore5 dX3_placeBeside_17 rfl ?_
    refine z_iload_n dX3_placeBeside_19 rfl ?_
    refine zn_if_eq (tgt := 28) dX3_placeBeside_20 (by decide) (by omega) (fun hc20 => ?_) (fun hc20 => by omega)
    refine z_iconst (v := nI 1) dX3_placeBeside_28 rfl ?_
    refine z_goto (tgt := 33) dX3_placeBeside_29 (by decide) ?_
    refine z_istore6 dX3_placeBeside_33 rfl ?_
    refine z_iload dX3_placeBeside_35 rfl ?_
    refine zn_if_eq (tgt := 47) dX3_placeBeside_37 (by decide) (by omega) (fun hc37 => by omega) (fun hc37 => ?_)
    refine z_iload_n dX3_placeBeside_40 rfl ?_
    refine y_callSN1x (M' := M_X8_widthOf) dX3_placeBeside_41 ln_X3_90 cs_X8_widthOf (Nat.le_of_ble_eq_true rfl) (Nat.le_of_ble_eq_true rfl) rfl (c_widthOf pl (by omega) d) ?_
    refine z_goto (tgt := 51) dX3_placeBeside_44 (by decide) ?_
    refine z_iload dX3_placeBeside_51 rfl ?_
    refine z_iadd dX3_placeBeside_53 ?_
    rw [i32_a, nI_add]
    obtain hz | ⟨u, hu⟩ : pl / 20 % 7 + shn (pw p) (ph p) (pl % 20) 0 = 0 ∨ ∃ u, pl / 20 % 7 + shn (pw p) (ph p) (pl % 20) 0 = u + 1 := (by
      cases hx : pl / 20 % 7 + shn (pw p) (ph p) (pl % 20) 0 with
      | zero => exact Or.inl rfl
      | succ u => exact Or.inr ⟨u, rfl⟩)
    · rw [hz]
      refine z_istore7 dX3_placeBeside_54 rfl ?_
      refine z_iload dX3_placeBeside_56 rfl ?_
      refine z_if_lt (tgt := 68) dX3_placeBeside_58 (by decide) (fun hc58 => ?_) (fun hc58 => by exact absurd (by decide) hc58)
      refine z_iconst (v := -1) dX3_placeBeside_68 rfl ?_
      exact y_ireturn dX3_placeBeside_69 rfl ⟨by rw [stp_x (by decide), if_neg (by omega)]; rfl, rfl, rfl⟩
    · rw [hu, nI_pred]
      refine z_istore7 dX3_placeBeside_54 rfl ?_
      refine z_iload dX3_placeBeside_56 rfl ?_
      refine zn_if_lt (tgt := 68) dX3_placeBeside_58 (by decide) (by omega) ?_
      refine z_iload dX3_placeBeside_61 rfl ?_
      refine z_bipush (v := nI 7) dX3_placeBeside_63 rfl ?_
      refine zn_icmp_lt (tgt := 70) dX3_placeBeside_65 (by decide) (by omega) (by omega) (fun hc65 => ?_) (fun hc65 => ?_)
      · refine z_iload_n dX3_placeBeside_70 rfl ?_
        refine z_iload dX3_placeBeside_71 rfl ?_
        refine z_iload dX3_placeBeside_73 rfl ?_
        refine zn_if_eq (tgt := 83) dX3_placeBeside_75 (by decide) (by omega) (fun hc75 => by omega) (fun hc75 => ?_)
        refine z_bipush (v := nI 20) dX3_placeBeside_78 rfl ?_
        refine z_goto (tgt := 86) dX3_placeBeside_80 (by decide) ?_
        refine z_imul dX3_placeBeside_86 ?_
        refine z_iadd dX3_placeBeside_87 ?_
        refine z_istore8 dX3_placeBeside_88 rfl ?_
        refine z_iload dX3_placeBeside_90 rfl ?_
        refine z_iload dX3_placeBeside_92 rfl ?_
        refine z_isub dX3_placeBeside_94 ?_
        refine z_aload_n dX3_placeBeside_95 rfl ?_
        refine z_iload dX3_placeBeside_96 rfl ?_
        refine z_iload_n dX3_placeBeside_98 rfl ?_
        refine z_iload_n dX3_placeBeside_99 rfl ?_
        refine y_callV3x (M' := M_X3_cellBeside) dX3_placeBeside_100 lm_X3_96 cv_X3_cellBeside rfl (Nat.le_of_ble_eq_true rfl) (Nat.le_of_ble_eq_true rfl) rfl (c_cellBeside (y := 0) hp hP hc (by decide) s d) ?_
        refine z_iadd dX3_placeBeside_103 ?_
        rw [i32_r, pk_mul, nI_add, nI_add, nI_add]
        refine z_top (y := nI (nbc (pw p) (ph p) (if s = true then 0 else pd p) (pl % 20) 0 + 20 * (pl / 20 % 7 + shn (pw p) (ph p) (pl % 20) 0 - 1) + 140 * (pl / 140))) (by rw [pk_sub (by omega)]; congr 1; omega) ?_
        exact y_ireturn dX3_placeBeside_104 rfl ⟨by rw [stp_x (by decide), if_pos (show 1 ≤ pl / 20 % 7 + shn (pw p) (ph p) (pl % 20) 0 ∧ pl / 20 % 7 + shn (pw p) (ph p) (pl % 20) 0 ≤ 7 from by omega)]; rfl, rfl, rfl⟩
      · refine z_iconst (v := -1) dX3_placeBeside_68 rfl ?_
        exact y_ireturn dX3_placeBeside_69 rfl ⟨by rw [stp_x (by decide), if_neg (by omega)]; rfl, rfl, rfl⟩
  · refine z_iload_n dX3_placeBeside_0 rfl ?_
    refine y_callSN1x (M' := M_X8_cellOf) dX3_placeBeside_1 ln_X3_87 cs_X8_cellOf (Nat.le_of_ble_eq_true rfl) (Nat.le_of_ble_eq_true rfl) rfl (c_cellOf pl (by omega) d) ?_
    refine z_istore4 dX3_placeBeside_4 rfl ?_
    refine z_aload_n dX3_placeBeside_6 rfl ?_
    refine y_getR dX3_placeBeside_7 lf_X3_34 rfl rfl ?_
    refine z_iload dX3_placeBeside_10 rfl ?_
    refine z_iconst (v := nI 4) dX3_placeBeside_12 rfl ?_
    refine zn_imul dX3_placeBeside_13 ?_
    refine z_iload_n dX3_placeBeside_14 rfl ?_
    refine zn_iadd dX3_placeBeside_15 ?_
    refine y_ialde dX3_placeBeside_16 rfl (by decide) (by omega) hS ?_
    refine z_istore5 dX3_placeBeside_17 rfl ?_
    refine z_iload_n dX3_placeBeside_19 rfl ?_
    refine zn_if_eq (tgt := 28) dX3_placeBeside_20 (by decide) (by omega) (fun hc20 => by omega) (fun hc20 => ?_)
    refine z_iload_n dX3_placeBeside_23 rfl ?_
    refine z_iconst (v := nI 1) dX3_placeBeside_24 rfl ?_
    refine zn_icmp_ne (tgt := 32) dX3_placeBeside_25 (by decide) (by omega) (by omega) (fun hc25 => by omega) (fun hc25 => ?_)
    refine z_iconst (v := nI 1) dX3_placeBeside_28 rfl ?_
    refine z_goto (tgt := 33) dX3_placeBeside_29 (by decide) ?_
    refine z_istore6 dX3_placeBeside_33 rfl ?_
    refine z_iload dX3_placeBeside_35 rfl ?_
    refine zn_if_eq (tgt := 47) dX3_placeBeside_37 (by decide) (by omega) (fun hc37 => by omega) (fun hc37 => ?_)
    refine z_iload_n dX3_placeBeside_40 rfl ?_
    refine y_callSN1x (M' := M_X8_widthOf) dX3_placeBeside_41 ln_X3_90 cs_X8_widthOf (Nat.le_of_ble_eq_true rfl) (Nat.le_of_ble_eq_true rfl) rfl (c_widthOf pl (by omega) d) ?_
    refine z_goto (tgt := 51) dX3_placeBeside_44 (by decide) ?_
    refine z_iload dX3_placeBeside_51 rfl ?_
    refine z_iadd dX3_placeBeside_53 ?_
    rw [i32_a, nI_add]
    obtain hz | ⟨u, hu⟩ : pl / 20 % 7 + shn (pw p) (ph p) (pl % 20) 1 = 0 ∨ ∃ u, pl / 20 % 7 + shn (pw p) (ph p) (pl % 20) 1 = u + 1 := (by
      cases hx : pl / 20 % 7 + shn (pw p) (ph p) (pl % 20) 1 with
      | zero => exact Or.inl rfl
      | succ u => exact Or.inr ⟨u, rfl⟩)
    · rw [hz]
      refine z_istore7 dX3_placeBeside_54 rfl ?_
      refine z_iload dX3_placeBeside_56 rfl ?_
      refine z_if_lt (tgt := 68) dX3_placeBeside_58 (by decide) (fun hc58 => ?_) (fun hc58 => by exact absurd (by decide) hc58)
      refine z_iconst (v := -1) dX3_placeBeside_68 rfl ?_
      exact y_ireturn dX3_placeBeside_69 rfl ⟨by rw [stp_x (by decide), if_neg (by omega)]; rfl, rfl, rfl⟩
    · rw [hu, nI_pred]
      refine z_istore7 dX3_placeBeside_54 rfl ?_
      refine z_iload dX3_placeBeside_56 rfl ?_
      refine zn_if_lt (tgt := 68) dX3_placeBeside_58 (by decide) (by omega) ?_
      refine z_iload dX3_placeBeside_61 rfl ?_
      refine z_bipush (v := nI 7) dX3_placeBeside_63 rfl ?_
      refine zn_icmp_lt (tgt := 70) dX3_placeBeside_65 (by decide) (by omega) (by omega) (fun hc65 => ?_) (fun hc65 => ?_)
      · refine z_iload_n dX3_placeBeside_70 rfl ?_
        refine z_iload dX3_placeBeside_71 rfl ?_
        refine z_iload dX3_placeBeside_73 rfl ?_
        refine zn_if_eq (tgt := 83) dX3_placeBeside_75 (by decide) (by omega) (fun hc75 => by omega) (fun hc75 => ?_)
        refine z_bipush (v := nI 20) dX3_placeBeside_78 rfl ?_
        refine z_goto (tgt := 86) dX3_placeBeside_80 (by decide) ?_
        refine z_imul dX3_placeBeside_86 ?_
        refine z_iadd dX3_placeBeside_87 ?_
        refine z_istore8 dX3_placeBeside_88 rfl ?_
        refine z_iload dX3_placeBeside_90 rfl ?_
        refine z_iload dX3_placeBeside_92 rfl ?_
        refine z_isub dX3_placeBeside_94 ?_
        refine z_aload_n dX3_placeBeside_95 rfl ?_
        refine z_iload dX3_placeBeside_96 rfl ?_
        refine z_iload_n dX3_placeBeside_98 rfl ?_
        refine z_iload_n dX3_placeBeside_99 rfl ?_
        refine y_callV3x (M' := M_X3_cellBeside) dX3_placeBeside_100 lm_X3_96 cv_X3_cellBeside rfl (Nat.le_of_ble_eq_true rfl) (Nat.le_of_ble_eq_true rfl) rfl (c_cellBeside (y := 1) hp hP hc (by decide) s d) ?_
        refine z_iadd dX3_placeBeside_103 ?_
        rw [i32_r, pk_mul, nI_add, nI_add, nI_add]
        refine z_top (y := nI (nbc (pw p) (ph p) (if s = true then 0 else pd p) (pl % 20) 1 + 20 * (pl / 20 % 7 + shn (pw p) (ph p) (pl % 20) 1 - 1) + 140 * (pl / 140))) (by rw [pk_sub (by omega)]; congr 1; omega) ?_
        exact y_ireturn dX3_placeBeside_104 rfl ⟨by rw [stp_x (by decide), if_pos (show 1 ≤ pl / 20 % 7 + shn (pw p) (ph p) (pl % 20) 1 ∧ pl / 20 % 7 + shn (pw p) (ph p) (pl % 20) 1 ≤ 7 from by omega)]; rfl, rfl, rfl⟩
      · refine z_iconst (v := -1) dX3_placeBeside_68 rfl ?_
        exact y_ireturn dX3_placeBeside_69 rfl ⟨by rw [stp_x (by decide), if_neg (by omega)]; rfl, rfl, rfl⟩
  · refine z_iload_n dX3_placeBeside_0 rfl ?_
    refine y_callSN1x (M' := M_X8_cellOf) dX3_placeBeside_1 ln_X3_87 cs_X8_cellOf (Nat.le_of_ble_eq_true rfl) (Nat.le_of_ble_eq_true rfl) rfl (c_cellOf pl (by omega) d) ?_
    refine z_istore4 dX3_placeBeside_4 rfl ?_
    refine z_aload_n dX3_placeBeside_6 rfl ?_
    refine y_getR dX3_placeBeside_7 lf_X3_34 rfl rfl ?_
    refine z_iload dX3_placeBeside_10 rfl ?_
    refine z_iconst (v := nI 4) dX3_placeBeside_12 rfl ?_
    refine zn_imul dX3_placeBeside_13 ?_
    refine z_iload_n dX3_placeBeside_14 rfl ?_
    refine zn_iadd dX3_placeBeside_15 ?_
    refine y_ialde dX3_placeBeside_16 rfl (by decide) (by omega) hS ?_
    refine z_istore5 dX3_placeBeside_17 rfl ?_
    refine z_iload_n dX3_placeBeside_19 rfl ?_
    refine zn_if_eq (tgt := 28) dX3_placeBeside_20 (by decide) (by omega) (fun hc20 => by omega) (fun hc20 => ?_)
    refine z_iload_n dX3_placeBeside_23 rfl ?_
    refine z_iconst (v := nI 1) dX3_placeBeside_24 rfl ?_
    refine zn_icmp_ne (tgt := 32) dX3_placeBeside_25 (by decide) (by omega) (by omega) (fun hc25 => ?_) (fun hc25 => by omega)
    refine z_iconst (v := nI 0) dX3_placeBeside_32 rfl ?_
    refine z_istore6 dX3_placeBeside_33 rfl ?_
    refine z_iload dX3_placeBeside_35 rfl ?_
    refine zn_if_eq (tgt := 47) dX3_placeBeside_37 (by decide) (by omega) (fun hc37 => ?_) (fun hc37 => by omega)
    refine z_iload_n dX3_placeBeside_47 rfl ?_
    refine y_callSN1x (M' := M_X8_heightOf) dX3_placeBeside_48 ln_X3_93 cs_X8_heightOf (Nat.le_of_ble_eq_true rfl) (Nat.le_of_ble_eq_true rfl) rfl (c_heightOf pl (by omega) d) ?_
    refine z_iload dX3_placeBeside_51 rfl ?_
    refine z_iadd dX3_placeBeside_53 ?_
    rw [i32_a, nI_add]
    obtain hz | ⟨u, hu⟩ : pl / 140 + shn (pw p) (ph p) (pl % 20) 2 = 0 ∨ ∃ u, pl / 140 + shn (pw p) (ph p) (pl % 20) 2 = u + 1 := (by
      cases hx : pl / 140 + shn (pw p) (ph p) (pl % 20) 2 with
      | zero => exact Or.inl rfl
      | succ u => exact Or.inr ⟨u, rfl⟩)
    · rw [hz]
      refine z_istore7 dX3_placeBeside_54 rfl ?_
      refine z_iload dX3_placeBeside_56 rfl ?_
      refine z_if_lt (tgt := 68) dX3_placeBeside_58 (by decide) (fun hc58 => ?_) (fun hc58 => by exact absurd (by decide) hc58)
      refine z_iconst (v := -1) dX3_placeBeside_68 rfl ?_
      exact y_ireturn dX3_placeBeside_69 rfl ⟨by rw [stp_z (by decide), if_neg (by omega)]; rfl, rfl, rfl⟩
    · rw [hu, nI_pred]
      refine z_istore7 dX3_placeBeside_54 rfl ?_
      refine z_iload dX3_placeBeside_56 rfl ?_
      refine zn_if_lt (tgt := 68) dX3_placeBeside_58 (by decide) (by omega) ?_
      refine z_iload dX3_placeBeside_61 rfl ?_
      refine z_bipush (v := nI 7) dX3_placeBeside_63 rfl ?_
      refine zn_icmp_lt (tgt := 70) dX3_placeBeside_65 (by decide) (by omega) (by omega) (fun hc65 => ?_) (fun hc65 => ?_)
      · refine z_iload_n dX3_placeBeside_70 rfl ?_
        refine z_iload dX3_placeBeside_71 rfl ?_
        refine z_iload dX3_placeBeside_73 rfl ?_
        refine zn_if_eq (tgt := 83) dX3_placeBeside_75 (by decide) (by omega) (fun hc75 => ?_) (fun hc75 => by omega)
        refine z_sipush (v := nI 140) dX3_placeBeside_83 rfl ?_
        refine z_imul dX3_placeBeside_86 ?_
        refine z_iadd dX3_placeBeside_87 ?_
        refine z_istore8 dX3_placeBeside_88 rfl ?_
        refine z_iload dX3_placeBeside_90 rfl ?_
        refine z_iload dX3_placeBeside_92 rfl ?_
        refine z_isub dX3_placeBeside_94 ?_
        refine z_aload_n dX3_placeBeside_95 rfl ?_
        refine z_iload dX3_placeBeside_96 rfl ?_
        refine z_iload_n dX3_placeBeside_98 rfl ?_
        refine z_iload_n dX3_placeBeside_99 rfl ?_
        refine y_callV3x (M' := M_X3_cellBeside) dX3_placeBeside_100 lm_X3_96 cv_X3_cellBeside rfl (Nat.le_of_ble_eq_true rfl) (Nat.le_of_ble_eq_true rfl) rfl (c_cellBeside (y := 2) hp hP hc (by decide) s d) ?_
        refine z_iadd dX3_placeBeside_103 ?_
        rw [i32_r, pk_mul, nI_add, nI_add, nI_add]
        refine z_top (y := nI (nbc (pw p) (ph p) (if s = true then 0 else pd p) (pl % 20) 2 + 20 * (pl / 20 % 7) + 140 * (pl / 140 + shn (pw p) (ph p) (pl % 20) 2 - 1))) (by rw [pk_sub (by omega)]; congr 1; omega) ?_
        exact y_ireturn dX3_placeBeside_104 rfl ⟨by rw [stp_z (by decide), if_pos (show 1 ≤ pl / 140 + shn (pw p) (ph p) (pl % 20) 2 ∧ pl / 140 + shn (pw p) (ph p) (pl % 20) 2 ≤ 7 from by omega)]; rfl, rfl, rfl⟩
      · refine z_iconst (v := -1) dX3_placeBeside_68 rfl ?_
        exact y_ireturn dX3_placeBeside_69 rfl ⟨by rw [stp_z (by decide), if_neg (by omega)]; rfl, rfl, rfl⟩
  · refine z_iload_n dX3_placeBeside_0 rfl ?_
    refine y_callSN1x (M' := M_X8_cellOf) dX3_placeBeside_1 ln_X3_87 cs_X8_cellOf (Nat.le_of_ble_eq_true rfl) (Nat.le_of_ble_eq_true rfl) rfl (c_cellOf pl (by omega) d) ?_
    refine z_istore4 dX3_placeBeside_4 rfl ?_
    refine z_aload_n dX3_placeBeside_6 rfl ?_
    refine y_getR dX3_placeBeside_7 lf_X3_34 rfl rfl ?_
    refine z_iload dX3_placeBeside_10 rfl ?_
    refine z_iconst (v := nI 4) dX3_placeBeside_12 rfl ?_
    refine zn_imul dX3_placeBeside_13 ?_
    refine z_iload_n dX3_placeBeside_14 rfl ?_
    refine zn_iadd dX3_placeBeside_15 ?_
    refine y_ialde dX3_placeBeside_16 rfl (by decide) (by omega) hS ?_
    refine z_istore5 dX3_placeBeside_17 rfl ?_
    refine z_iload_n dX3_placeBeside_19 rfl ?_
    refine zn_if_eq (tgt := 28) dX3_placeBeside_20 (by decide) (by omega) (fun hc20 => by omega) (fun hc20 => ?_)
    refine z_iload_n dX3_placeBeside_23 rfl ?_
    refine z_iconst (v := nI 1) dX3_placeBeside_24 rfl ?_
    refine zn_icmp_ne (tgt := 32) dX3_placeBeside_25 (by decide) (by omega) (by omega) (fun hc25 => ?_) (fun hc25 => by omega)
    refine z_iconst (v := nI 0) dX3_placeBeside_32 rfl ?_
    refine z_istore6 dX3_placeBeside_33 rfl ?_
    refine z_iload dX3_placeBeside_35 rfl ?_
    refine zn_if_eq (tgt := 47) dX3_placeBeside_37 (by decide) (by omega) (fun hc37 => ?_) (fun hc37 => by omega)
    refine z_iload_n dX3_placeBeside_47 rfl ?_
    refine y_callSN1x (M' := M_X8_heightOf) dX3_placeBeside_48 ln_X3_93 cs_X8_heightOf (Nat.le_of_ble_eq_true rfl) (Nat.le_of_ble_eq_true rfl) rfl (c_heightOf pl (by omega) d) ?_
    refine z_iload dX3_placeBeside_51 rfl ?_
    refine z_iadd dX3_placeBeside_53 ?_
    rw [i32_a, nI_add]
    obtain hz | ⟨u, hu⟩ : pl / 140 + shn (pw p) (ph p) (pl % 20) 3 = 0 ∨ ∃ u, pl / 140 + shn (pw p) (ph p) (pl % 20) 3 = u + 1 := (by
      cases hx : pl / 140 + shn (pw p) (ph p) (pl % 20) 3 with
      | zero => exact Or.inl rfl
      | succ u => exact Or.inr ⟨u, rfl⟩)
    · rw [hz]
      refine z_istore7 dX3_placeBeside_54 rfl ?_
      refine z_iload dX3_placeBeside_56 rfl ?_
      refine z_if_lt (tgt := 68) dX3_placeBeside_58 (by decide) (fun hc58 => ?_) (fun hc58 => by exact absurd (by decide) hc58)
      refine z_iconst (v := -1) dX3_placeBeside_68 rfl ?_
      exact y_ireturn dX3_placeBeside_69 rfl ⟨by rw [stp_z (by decide), if_neg (by omega)]; rfl, rfl, rfl⟩
    · rw [hu, nI_pred]
      refine z_istore7 dX3_placeBeside_54 rfl ?_
      refine z_iload dX3_placeBeside_56 rfl ?_
      refine zn_if_lt (tgt := 68) dX3_placeBeside_58 (by decide) (by omega) ?_
      refine z_iload dX3_placeBeside_61 rfl ?_
      refine z_bipush (v := nI 7) dX3_placeBeside_63 rfl ?_
      refine zn_icmp_lt (tgt := 70) dX3_placeBeside_65 (by decide) (by omega) (by omega) (fun hc65 => ?_) (fun hc65 => ?_)
      · refine z_iload_n dX3_placeBeside_70 rfl ?_
        refine z_iload dX3_placeBeside_71 rfl ?_
        refine z_iload dX3_placeBeside_73 rfl ?_
        refine zn_if_eq (tgt := 83) dX3_placeBeside_75 (by decide) (by omega) (fun hc75 => ?_) (fun hc75 => by omega)
        refine z_sipush (v := nI 140) dX3_placeBeside_83 rfl ?_
        refine z_imul dX3_placeBeside_86 ?_
        refine z_iadd dX3_placeBeside_87 ?_
        refine z_istore8 dX3_placeBeside_88 rfl ?_
        refine z_iload dX3_placeBeside_90 rfl ?_
        refine z_iload dX3_placeBeside_92 rfl ?_
        refine z_isub dX3_placeBeside_94 ?_
        refine z_aload_n dX3_placeBeside_95 rfl ?_
        refine z_iload dX3_placeBeside_96 rfl ?_
        refine z_iload_n dX3_placeBeside_98 rfl ?_
        refine z_iload_n dX3_placeBeside_99 rfl ?_
        refine y_callV3x (M' := M_X3_cellBeside) dX3_placeBeside_100 lm_X3_96 cv_X3_cellBeside rfl (Nat.le_of_ble_eq_true rfl) (Nat.le_of_ble_eq_true rfl) rfl (c_cellBeside (y := 3) hp hP hc (by decide) s d) ?_
        refine z_iadd dX3_placeBeside_103 ?_
        rw [i32_r, pk_mul, nI_add, nI_add, nI_add]
        refine z_top (y := nI (nbc (pw p) (ph p) (if s = true then 0 else pd p) (pl % 20) 3 + 20 * (pl / 20 % 7) + 140 * (pl / 140 + shn (pw p) (ph p) (pl % 20) 3 - 1))) (by rw [pk_sub (by omega)]; congr 1; omega) ?_
        exact y_ireturn dX3_placeBeside_104 rfl ⟨by rw [stp_z (by decide), if_pos (show 1 ≤ pl / 140 + shn (pw p) (ph p) (pl % 20) 3 ∧ pl / 140 + shn (pw p) (ph p) (pl % 20) 3 ≤ 7 from by omega)]; rfl, rfl, rfl⟩
      · refine z_iconst (v := -1) dX3_placeBeside_68 rfl ?_
        exact y_ireturn dX3_placeBeside_69 rfl ⟨by rw [stp_z (by decide), if_neg (by omega)]; rfl, rfl, rfl⟩
theorem pdx_b (p : PT) (x : Nat) : (if (x == 3) = true then 0 else pd p) = pdx p x := by simp [pdx]
theorem pon_none {p : PT} {cut b pl y : Nat} (h : stp (pw p) (ph p) (pdx p (pX p b)) pl y = none) : pon p cut b pl y = none := by simp [pon, h]
theorem pon_some {p : PT} {cut b pl y q : Nat} (h : stp (pw p) (ph p) (pdx p (pX p b)) pl y = some q) : pon p cut b pl y = if cbe (pX p b) (kdk (pK p) cut (q % 20)) = true then some q else none := by simp [pon, h]
theorem pon_ok {p : PT} (hp : PV p) {cut b pl y q : Nat} (hb : b < pb p) (hc : pl % 20 < pw p * ph p) (h98 : pl < 980) (hy : y < 4) (h : pon p cut b pl y = some q) : q < 980 ∧ q % 20 < pw p * ph p ∧ cbe (pX p b) (kdk (pK p) cut (q % 20)) = true := by
  cases hs : stp (pw p) (ph p) (pdx p (pX p b)) pl y with
  | none => rw [pon_none hs] at h; cases h
  | some r =>
    rw [pon_some hs] at h
    have := stp_ok hp (pdx_lt hp _) hc h98 hy hs
    by_cases hx : cbe (pX p b) (kdk (pK p) cut (r % 20)) = true
    · rw [if_pos hx] at h; cases h; exact ⟨this.1, this.2.1, hx⟩
    · rw [if_neg hx] at h; cases h
theorem oI_m1 {o : Option Nat} (h : ∀ q, o = some q → q < 2 ^ 31) : oI o = -1 ↔ o = none := by
  cases o with
  | none => simp [oI]
  | some q => simp [oI, nI_m1 (h q rfl)]
set_option maxRecDepth 4000 in
theorem c_placeOn {X : zX} {mu : zmu} {nu : znu} {p : PT} {a b pl y cut : Nat} (hp : PV p) (hP : PFc p mu) (ha : sAt a) (hb : b < pb p) (hpl : pl < 980) (hc : pl % 20 < pw p * ph p) (hy : y < 4) (hcut : mu a 2 = nI cut) (hcl : cut < 2 ^ 20) (d : Nat) : zJ X M_X4_placeOn (d + 2) 0 0 0 [.ref a, .int (nI b), .int (nI pl), .int (nI y), zu] [] 86 (zEE mu nu) (zlift (zex (some (.int (oI (pon p cut b pl y)))) (mu) nu)) := by
  refine z_aload_n dX4_placeOn_0 rfl ?_
  refine y_getR dX4_placeOn_1 lf_X4_15 ha.1 rfl ?_
  refine z_iload_n dX4_placeOn_4 rfl ?_
  refine z_iload_n dX4_placeOn_5 rfl ?_
  refine z_aload_n dX4_placeOn_6 rfl ?_
  refine y_getR dX4_placeOn_7 lf_X4_15 ha.1 rfl ?_
  refine z_iload_n dX4_placeOn_10 rfl ?_
  refine y_callV1x (M' := M_X3_goesStraight) dX4_placeOn_11 lm_X4_50 cv_X3_goesStraight rfl (Nat.le_of_ble_eq_true rfl) (Nat.le_of_ble_eq_true rfl) rfl (c_goesStraight hp hP hb (d + 1)) ?_
  refine y_callV3x (M' := M_X3_placeBeside) dX4_placeOn_14 lm_X4_54 cv_X3_placeBeside rfl (Nat.le_of_ble_eq_true rfl) (Nat.le_of_ble_eq_true rfl) rfl (c_placeBeside hp hP hpl hc hy (pX p b == 3) d) ?_
  rw [pdx_b]
  cases hst : stp (pw p) (ph p) (pdx p (pX p b)) pl y with
  | none =>
    refine z_istore4 dX4_placeOn_17 rfl ?_
    refine z_iload dX4_placeOn_19 rfl ?_
    refine z_iconst (v := -1) dX4_placeOn_21 rfl ?_
    refine z_icmp_eq (tgt := 43) dX4_placeOn_22 (by decide) (fun hc22 => ?_) (fun hc22 => by exact absurd rfl hc22)
    refine z_iconst (v := -1) dX4_placeOn_43 rfl ?_
    exact y_ireturn dX4_placeOn_44 rfl ⟨by rw [pon_none hst]; rfl, rfl, rfl⟩
  | some q =>
    have hq := stp_ok hp (pdx_lt hp _) hc hpl hy hst
    rw [show oI (some q) = nI q from rfl]
    refine z_istore4 dX4_placeOn_17 rfl ?_
    refine z_iload dX4_placeOn_19 rfl ?_
    refine z_iconst (v := -1) dX4_placeOn_21 rfl ?_
    refine z_icmp_eq (tgt := 43) dX4_placeOn_22 (by decide) (fun hc22 => by exact absurd hc22 (nI_m1 (by omega))) (fun hc22 => ?_)
    refine z_aload_n dX4_placeOn_25 rfl ?_
    refine z_iload_n dX4_placeOn_26 rfl ?_
    refine z_iload dX4_placeOn_27 rfl ?_
    refine y_callSN1x (M' := M_X8_cellOf) dX4_placeOn_29 ln_X4_58 cs_X8_cellOf (Nat.le_of_ble_eq_true rfl) (Nat.le_of_ble_eq_true rfl) rfl (c_cellOf q (by omega) (d + 1)) ?_
    refine y_callV2x (M' := M_X4_canBe) dX4_placeOn_32 lm_X4_61 cv_X4_canBe ha.1 (Nat.le_of_ble_eq_true rfl) (Nat.le_of_ble_eq_true rfl) rfl (c_canBe hp hP ha hb hq.2.1 hcut hcl d) ?_
    rw [b2i_n]
    refine zn_if_eq (tgt := 43) dX4_placeOn_35 (by decide) (by split <;> decide) (fun hc35 => ?_) (fun hc35 => ?_)
    · refine z_iconst (v := -1) dX4_placeOn_43 rfl ?_
      exact y_ireturn dX4_placeOn_44 rfl ⟨by rw [pon_some hst, if_neg (by intro e; rw [e] at hc35; exact absurd hc35 (by decide))]; rfl, rfl, rfl⟩
    · refine z_iload dX4_placeOn_38 rfl ?_
      refine z_goto (tgt := 44) dX4_placeOn_40 (by decide) ?_
      exact y_ireturn dX4_placeOn_44 rfl ⟨by rw [pon_some hst, if_pos (by cases hx : cbe (pX p b) (kdk (pK p) cut (q % 20)) with | true => rfl | false => rw [hx] at hc35; exact absurd rfl hc35)]; rfl, rfl, rfl⟩
theorem SFc.at {p : PT} {P : Nat → Nat} {cut a : Nat} {mu : zmu} (h : SFc p P cut a mu) {b : Nat} (hb : b < pb p) : mu (a + 1) b = nI (P b) := h.1 b hb
set_option maxRecDepth 4000 in
theorem c_goes {X : zX} {mu : zmu} {nu : znu} {p : PT} {P : Nat → Nat} {a b y cut : Nat} (hp : PV p) (hP : PFc p mu) (ha : sAt a) (hS : SFc p P cut a mu) (hV : SV p P cut) (hb : b < pb p) (hy : y < 4) (d : Nat) : zJ X M_X4_goes (d + 3) 0 0 0 [.ref a, .int (nI b), .int (nI y), zu] [] 86 (zEE mu nu) (zlift (zex (some (.int (b2i (pon p cut b (P b) y).isSome))) (match pon p cut b (P b) y with | none => mu | some q => u2 mu (a + 1) b (nI q)) nu)) := by
  have h5 := hp.2.2.2.2.2.1
  refine z_aload_n dX4_goes_0 rfl ?_
  refine z_iload_n dX4_goes_1 rfl ?_
  refine z_aload_n dX4_goes_2 rfl ?_
  refine y_getR dX4_goes_3 lf_X4_9 ha.1 rfl ?_
  refine z_iload_n dX4_goes_6 rfl ?_
  refine y_ialde dX4_goes_7 ha.2 (by decide) (by omega) (hS.1 b hb) ?_
  refine z_iload_n dX4_goes_8 rfl ?_
  refine y_callV3x (M' := M_X4_placeOn) dX4_goes_9 lm_X4_65 cv_X4_placeOn ha.1 (Nat.le_of_ble_eq_true rfl) (Nat.le_of_ble_eq_true rfl) rfl (c_placeOn hp hP ha hb (hV.1 b hb).1 (hV.1 b hb).2 hy hS.2 hV.2 d) ?_
  cases hst : pon p cut b (P b) y with
  | none =>
    refine z_istore3 dX4_goes_12 rfl ?_
    refine z_iload_n dX4_goes_13 rfl ?_
    refine z_iconst (v := -1) dX4_goes_14 rfl ?_
    refine z_icmp_ne (tgt := 20) dX4_goes_15 (by decide) (fun hc15 => by exact absurd rfl hc15) (fun hc15 => ?_)
    refine z_iconst (v := nI 0) dX4_goes_18 rfl ?_
    exact y_zreturn dX4_goes_19 rfl (by first | exact Or.inl rfl | exact Or.inr rfl | assumption) ⟨rfl, rfl, rfl⟩
  | some q =>
    have hq := pon_ok hp hb (hV.1 b hb).2 (hV.1 b hb).1 hy hst
    rw [show oI (some q) = nI q from rfl]
    refine z_istore3 dX4_goes_12 rfl ?_
    refine z_iload_n dX4_goes_13 rfl ?_
    refine z_iconst (v := -1) dX4_goes_14 rfl ?_
    refine z_icmp_ne (tgt := 20) dX4_goes_15 (by decide) (fun hc15 => ?_) (fun hc15 => by exact absurd hc15 (nI_m1 (by omega)))
    refine z_aload_n dX4_goes_20 rfl ?_
    refine y_getR dX4_goes_21 lf_X4_9 ha.1 rfl ?_
    refine z_iload_n dX4_goes_24 rfl ?_
    refine z_iload_n dX4_goes_25 rfl ?_
    refine y_iast dX4_goes_26 ha.2 (by decide) (by omega) ?_
    refine z_iconst (v := nI 1) dX4_goes_27 rfl ?_
    exact y_zreturn dX4_goes_28 rfl (by first | exact Or.inl rfl | exact Or.inr rfl | assumption) ⟨rfl, rfl, rfl⟩
set_option maxRecDepth 4000 in
theorem c_homePlace {X : zX} {mu : zmu} {nu : znu} {p : PT} {a b : Nat} (hp : PV p) (hP : PFc p mu) (ha : sAt a) (hb : b < pb p) (d : Nat) : zJ X M_X4_homePlace d 0 0 0 [.ref a, .int (nI b)] [] 86 (zEE mu nu) (zlift (zex (some (.int (nI (480 + pH p b)))) (mu) nu)) := by
  have h5 := hp.2.2.2.2.2.1
  refine z_sipush (v := nI 480) dX4_homePlace_0 rfl ?_
  refine z_aload_n dX4_homePlace_3 rfl ?_
  refine y_getR dX4_homePlace_4 lf_X4_15 ha.1 rfl ?_
  refine y_getR dX4_homePlace_7 lf_X4_69 rfl rfl ?_
  refine z_iload_n dX4_homePlace_10 rfl ?_
  refine y_ialde dX4_homePlace_11 (by first | rfl | assumption) (by decide) (by omega) (hP.2.2.2.2.2.2.1 b hb).1 ?_
  refine zn_iadd dX4_homePlace_12 ?_
  exact y_ireturn dX4_homePlace_13 rfl ⟨rfl, rfl, rfl⟩
set_option maxRecDepth 4000 in
theorem c_isHome {X : zX} {mu : zmu} {nu : znu} {p : PT} {P : Nat → Nat} {a b cut : Nat} (hp : PV p) (hP : PFc p mu) (ha : sAt a) (hS : SFc p P cut a mu) (hV : SV p P cut) (hb : b < pb p) (d : Nat) : zJ X M_X4_isHome (d + 1) 0 0 0 [.ref a, .int (nI b)] [] 86 (zEE mu nu) (zlift (zex (some (.int (b2i (P b == 480 + pH p b)))) (mu) nu)) := by
  have h5 := hp.2.2.2.2.2.1
  have hPb := (hV.1 b hb).1
  have hHb := (hp.2.2.2.2.2.2.2 b hb).1
  have h20 := hp.n20
  refine z_aload_n dX4_isHome_0 rfl ?_
  refine y_getR dX4_isHome_1 lf_X4_9 ha.1 rfl ?_
  refine z_iload_n dX4_isHome_4 rfl ?_
  refine y_ialde dX4_isHome_5 ha.2 (by decide) (by omega) (hS.1 b hb) ?_
  refine z_aload_n dX4_isHome_6 rfl ?_
  refine z_iload_n dX4_isHome_7 rfl ?_
  refine y_callV1x (M' := M_X4_homePlace) dX4_isHome_8 lm_X4_28 cv_X4_homePlace ha.1 (Nat.le_of_ble_eq_true rfl) (Nat.le_of_ble_eq_true rfl) rfl (c_homePlace hp hP ha hb d) ?_
  refine zn_icmp_ne (tgt := 18) dX4_isHome_11 (by decide) (by omega) (by omega) (fun hc11 => ?_) (fun hc11 => ?_)
  · refine z_iconst (v := nI 0) dX4_isHome_18 rfl ?_
    exact y_zreturn dX4_isHome_19 rfl (by first | exact Or.inl rfl | exact Or.inr rfl | assumption) ⟨by rw [b2i_f]; simpa using hc11, rfl, rfl⟩
  · refine z_iconst (v := nI 1) dX4_isHome_14 rfl ?_
    refine z_goto (tgt := 19) dX4_isHome_15 (by decide) ?_
    exact y_zreturn dX4_isHome_19 rfl (by first | exact Or.inl rfl | exact Or.inr rfl | assumption) ⟨by rw [b2i_t]; simpa using hc11, rfl, rfl⟩
