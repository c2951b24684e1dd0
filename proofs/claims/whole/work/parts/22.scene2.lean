set_option maxRecDepth 4000 in
theorem c_bitCount {X : zX} {mu : zmu} {nu : znu} {x : Nat} (hx : x < 2 ^ 20) (d : Nat) : zJ X M_J6_bitCount_0f7a4 d 0 0 0 [.int (nI x)] [] 86 (zEE (mu) nu) (zlift (zex (some (.int (nI (popc x)))) (mu) nu)) := by
  have g1 : x / 2 &&& 1431655765 ≤ x / 2 := Nat.and_le_left
  have g2 : swar1 x < 2 ^ 20 := by unfold swar1; omega
  have g3 : swar2 (swar1 x) < 2 ^ 21 := by
    have q1 : swar1 x &&& 858993459 ≤ swar1 x := Nat.and_le_left
    have q2 : swar1 x / 4 &&& 858993459 ≤ swar1 x / 4 := Nat.and_le_left
    unfold swar2; omega
  have g4 : swar3 (swar2 (swar1 x)) < 2 ^ 22 := by
    have q1 : (swar2 (swar1 x) + swar2 (swar1 x) / 16) &&& 252645135 ≤ swar2 (swar1 x) + swar2 (swar1 x) / 16 := Nat.and_le_left
    unfold swar3; omega
  refine z_iload_n dJ6_bitCount_0f7a4_0 rfl ?_
  refine z_iload_n dJ6_bitCount_0f7a4_1 rfl ?_
  refine z_iconst (v := nI 1) dJ6_bitCount_0f7a4_2 rfl ?_
  refine zn_iushr dJ6_bitCount_0f7a4_3 (by omega) (by omega) ?_
  refine z_ldcw (v := nI 1431655765) dJ6_bitCount_0f7a4_4 lk_J6_265 ?_
  refine zn_iand dJ6_bitCount_0f7a4_7 ?_
  refine zn_isub dJ6_bitCount_0f7a4_8 (by exact Nat.le_trans g1 (Nat.div_le_self _ _)) ?_
  rw [show x - (x / 2 ^ 1 &&& 1431655765) = swar1 x from rfl]
  refine z_istore0 dJ6_bitCount_0f7a4_9 ?_
  refine z_iload_n dJ6_bitCount_0f7a4_10 rfl ?_
  refine z_ldcw (v := nI 858993459) dJ6_bitCount_0f7a4_11 lk_J6_266 ?_
  refine zn_iand dJ6_bitCount_0f7a4_14 ?_
  refine z_iload_n dJ6_bitCount_0f7a4_15 rfl ?_
  refine z_iconst (v := nI 2) dJ6_bitCount_0f7a4_16 rfl ?_
  refine zn_iushr dJ6_bitCount_0f7a4_17 (by omega) (by omega) ?_
  refine z_ldcw (v := nI 858993459) dJ6_bitCount_0f7a4_18 lk_J6_266 ?_
  refine zn_iand dJ6_bitCount_0f7a4_21 ?_
  refine zn_iadd dJ6_bitCount_0f7a4_22 ?_
  rw [show (swar1 x &&& 858993459) + (swar1 x / 2 ^ 2 &&& 858993459) = swar2 (swar1 x) from rfl]
  refine z_istore0 dJ6_bitCount_0f7a4_23 ?_
  refine z_iload_n dJ6_bitCount_0f7a4_24 rfl ?_
  refine z_iload_n dJ6_bitCount_0f7a4_25 rfl ?_
  refine z_iconst (v := nI 4) dJ6_bitCount_0f7a4_26 rfl ?_
  refine zn_iushr dJ6_bitCount_0f7a4_27 (by omega) (by omega) ?_
  refine zn_iadd dJ6_bitCount_0f7a4_28 ?_
  refine z_ldcw (v := nI 252645135) dJ6_bitCount_0f7a4_29 lk_J6_267 ?_
  refine zn_iand dJ6_bitCount_0f7a4_32 ?_
  rw [show (swar2 (swar1 x) + swar2 (swar1 x) / 2 ^ 4) &&& 252645135 = swar3 (swar2 (swar1 x)) from rfl]
  refine z_istore0 dJ6_bitCount_0f7a4_33 ?_
  refine z_iload_n dJ6_bitCount_0f7a4_34 rfl ?_
  refine z_iload_n dJ6_bitCount_0f7a4_35 rfl ?_
  refine z_bipush (v := nI 8) dJ6_bitCount_0f7a4_36 rfl ?_
  refine zn_iushr dJ6_bitCount_0f7a4_38 (by omega) (by omega) ?_
  refine zn_iadd dJ6_bitCount_0f7a4_39 ?_
  refine z_istore0 dJ6_bitCount_0f7a4_40 ?_
  refine z_iload_n dJ6_bitCount_0f7a4_41 rfl ?_
  refine z_iload_n dJ6_bitCount_0f7a4_42 rfl ?_
  refine z_bipush (v := nI 16) dJ6_bitCount_0f7a4_43 rfl ?_
  refine zn_iushr dJ6_bitCount_0f7a4_45 (by omega) (by omega) ?_
  refine zn_iadd dJ6_bitCount_0f7a4_46 ?_
  refine z_istore0 dJ6_bitCount_0f7a4_47 ?_
  refine z_iload_n dJ6_bitCount_0f7a4_48 rfl ?_
  refine z_bipush (v := nI 63) dJ6_bitCount_0f7a4_49 rfl ?_
  refine zn_iand dJ6_bitCount_0f7a4_51 ?_
  exact y_ireturn dJ6_bitCount_0f7a4_52 rfl ⟨by rw [← swar_popc hx]; rfl, rfl, rfl⟩
/-- who is home -/
def hmf (p : PT) (P : Nat → Nat) (b : Nat) : Bool := P b == 480 + pH p b
set_option maxRecDepth 4000 in
theorem c_whoIsHome_l {X : zX} {mu : zmu} {nu : znu} {p : PT} {P : Nat → Nat} {a cut : Nat} (hp : PV p) (hP : PFc p mu) (ha : sAt a) (hS : SFc p P cut a mu) (hV : SV p P cut) (d : Nat) : ∀ n i, i + n = pb p → zJ X M_X4_whoIsHome (d + 2) 0 0 4 [.ref a, .int (nI (bset (hmf p P) i)), .int (nI i)] [] 86 (zEE (mu) nu) (zlift (zex (some (.int (nI (bset (hmf p P) (pb p))))) (mu) nu)) := by
  intro n
  induction n with
  | zero =>
    intro i hi
    have h5 := hp.2.2.2.2.2.1
    refine z_iload_n dX4_whoIsHome_4 rfl ?_
    refine z_aload_n dX4_whoIsHome_5 rfl ?_
    refine y_getR dX4_whoIsHome_6 lf_X4_15 ha.1 rfl ?_
    refine y_getIe dX4_whoIsHome_9 lf_X4_23 rfl rfl hP.2.2.2.2.1 ?_
    refine zn_icmp_ge (tgt := 35) dX4_whoIsHome_12 (by decide) (by omega) (by omega) (fun hc12 => ?_) (fun hc12 => by omega)
    refine z_iload_n dX4_whoIsHome_35 rfl ?_
    exact y_ireturn dX4_whoIsHome_36 rfl ⟨by rw [show i = pb p by omega], rfl, rfl⟩
  | succ n ih =>
    intro i hi
    have h5 := hp.2.2.2.2.2.1
    refine z_iload_n dX4_whoIsHome_4 rfl ?_
    refine z_aload_n dX4_whoIsHome_5 rfl ?_
    refine y_getR dX4_whoIsHome_6 lf_X4_15 ha.1 rfl ?_
    refine y_getIe dX4_whoIsHome_9 lf_X4_23 rfl rfl hP.2.2.2.2.1 ?_
    refine zn_icmp_ge (tgt := 35) dX4_whoIsHome_12 (by decide) (by omega) (by omega) (fun hc12 => by omega) (fun hc12 => ?_)
    refine z_aload_n dX4_whoIsHome_15 rfl ?_
    refine z_iload_n dX4_whoIsHome_16 rfl ?_
    refine y_callV1x (M' := M_X4_isHome) dX4_whoIsHome_17 lm_X4_72 cv_X4_isHome ha.1 (Nat.le_of_ble_eq_true rfl) (Nat.le_of_ble_eq_true rfl) rfl (c_isHome hp hP ha hS hV (b := i) (by omega) d) ?_
    refine zb_if_eq (tgt := 29) dX4_whoIsHome_20 (by decide) (fun hc20 => ?_) (fun hc20 => ?_)
    · refine zn_iinc2 dX4_whoIsHome_29 rfl ?_
      refine z_goto (tgt := 4) dX4_whoIsHome_32 (by decide) ?_
      rw [bset_f (f := hmf p P) hc20]; exact ih (i + 1) (by omega)
    · refine z_iload_n dX4_whoIsHome_23 rfl ?_
      refine z_iconst (v := nI 1) dX4_whoIsHome_24 rfl ?_
      refine z_iload_n dX4_whoIsHome_25 rfl ?_
      refine zn_ishl dX4_whoIsHome_26 (by omega) (by have : 1 * 2 ^ i ≤ 1 * 2 ^ 5 := Nat.mul_le_mul_left 1 (Nat.pow_le_pow_right (by decide) (by omega)); omega) ?_
      refine zn_ior dX4_whoIsHome_27 ?_
      refine z_istore1 dX4_whoIsHome_28 rfl ?_
      refine zn_iinc2 dX4_whoIsHome_29 rfl ?_
      refine z_goto (tgt := 4) dX4_whoIsHome_32 (by decide) ?_
      rw [bset_t (f := hmf p P) hc20]; exact ih (i + 1) (by omega)
set_option maxRecDepth 4000 in
theorem c_whoIsHome {X : zX} {mu : zmu} {nu : znu} {p : PT} {P : Nat → Nat} {a cut : Nat} (hp : PV p) (hP : PFc p mu) (ha : sAt a) (hS : SFc p P cut a mu) (hV : SV p P cut) (d : Nat) : zJ X M_X4_whoIsHome (d + 2) 0 0 0 [.ref a, zu, zu] [] 86 (zEE (mu) nu) (zlift (zex (some (.int (nI (bset (hmf p P) (pb p))))) (mu) nu)) := by
  refine z_iconst (v := nI 0) dX4_whoIsHome_0 rfl ?_
  refine z_istore1 dX4_whoIsHome_1 rfl ?_
  refine z_iconst (v := nI 0) dX4_whoIsHome_2 rfl ?_
  refine z_istore2 dX4_whoIsHome_3 rfl ?_
  exact c_whoIsHome_l hp hP ha hS hV d (pb p) 0 (by omega)
/-- how many are not home -/
def awy (p : PT) (P : Nat → Nat) : Nat := pb p - bcnt (hmf p P) (pb p)
set_option maxRecDepth 4000 in
theorem c_countNotHome {X : zX} {mu : zmu} {nu : znu} {p : PT} {P : Nat → Nat} {a cut : Nat} (hp : PV p) (hP : PFc p mu) (ha : sAt a) (hS : SFc p P cut a mu) (hV : SV p P cut) (d : Nat) : zJ X M_X4_countNotHome (d + 3) 0 0 0 [.ref a] [] 86 (zEE (mu) nu) (zlift (zex (some (.int (nI (awy p P)))) (mu) nu)) := by
  have h5 := hp.2.2.2.2.2.1
  have hl := bset_lt (hmf p P) (pb p)
  have h32 : (2 : Nat) ^ pb p ≤ 2 ^ 5 := Nat.pow_le_pow_right (by decide) h5
  have hb := bcnt_le (hmf p P) (pb p)
  refine z_aload_n dX4_countNotHome_0 rfl ?_
  refine y_getR dX4_countNotHome_1 lf_X4_15 ha.1 rfl ?_
  refine y_getIe dX4_countNotHome_4 lf_X4_23 rfl rfl hP.2.2.2.2.1 ?_
  refine z_aload_n dX4_countNotHome_7 rfl ?_
  refine y_callV0x (M' := M_X4_whoIsHome) dX4_countNotHome_8 lm_X4_75 cv_X4_whoIsHome ha.1 (Nat.le_of_ble_eq_true rfl) (Nat.le_of_ble_eq_true rfl) rfl (c_whoIsHome hp hP ha hS hV d) ?_
  refine y_callS1x (M' := M_J6_bitCount_0f7a4) dX4_countNotHome_11 lm_X4_79 cs_J6_bitCount_0f7a4 (Nat.le_of_ble_eq_true rfl) (Nat.le_of_ble_eq_true rfl) rfl (c_bitCount (x := bset (hmf p P) (pb p)) (by omega) (d + 2)) ?_
  rw [popc_bset (by omega)]
  refine zn_isub dX4_countNotHome_14 (by omega) ?_
  exact y_ireturn dX4_countNotHome_15 rfl ⟨rfl, rfl, rfl⟩
def ckf (p : PT) (cut k c : Nat) : Bool := kdk (pK p) cut c == k
set_option maxRecDepth 4000 in
theorem c_cellsOfKind_l {X : zX} {mu : zmu} {nu : znu} {p : PT} {P : Nat → Nat} {a cut : Nat} (hp : PV p) (hP : PFc p mu) (ha : sAt a) (hS : SFc p P cut a mu) (hV : SV p P cut) (k : Nat) (hk : k ≤ 3) (d : Nat) : ∀ n i, i + n = pw p * ph p → zJ X M_X4_cellsOfKind (d + 1) 0 0 4 [.ref a, .int (nI k), .int (nI (bset (ckf p cut k) i)), .int (nI i)] [] 86 (zEE (mu) nu) (zlift (zex (some (.int (nI (bset (ckf p cut k) (pw p * ph p))))) (mu) nu)) := by
  intro n
  induction n with
  | zero =>
    intro i hi
    have h20 := hp.n20
    refine z_iload_n dX4_cellsOfKind_4 rfl ?_
    refine z_aload_n dX4_cellsOfKind_5 rfl ?_
    refine y_getR dX4_cellsOfKind_6 lf_X4_15 ha.1 rfl ?_
    refine y_getIe dX4_cellsOfKind_9 lf_X4_41 rfl rfl hP.2.2.2.1 ?_
    refine zn_icmp_ge (tgt := 36) dX4_cellsOfKind_12 (by decide) (by omega) (by omega) (fun hc12 => ?_) (fun hc12 => by omega)
    refine z_iload_n dX4_cellsOfKind_36 rfl ?_
    exact y_ireturn dX4_cellsOfKind_37 rfl ⟨by rw [show i = pw p * ph p by omega], rfl, rfl⟩
  | succ n ih =>
    intro i hi
    have h20 := hp.n20
    have hk3 := kdk_le hp (cut := cut) (c := i) (by omega)
    refine z_iload_n dX4_cellsOfKind_4 rfl ?_
    refine z_aload_n dX4_cellsOfKind_5 rfl ?_
    refine y_getR dX4_cellsOfKind_6 lf_X4_15 ha.1 rfl ?_
    refine y_getIe dX4_cellsOfKind_9 lf_X4_41 rfl rfl hP.2.2.2.1 ?_
    refine zn_icmp_ge (tgt := 36) dX4_cellsOfKind_12 (by decide) (by omega) (by omega) (fun hc12 => by omega) (fun hc12 => ?_)
    refine z_aload_n dX4_cellsOfKind_15 rfl ?_
    refine z_iload_n dX4_cellsOfKind_16 rfl ?_
    refine y_callV1x (M' := M_X4_kindAt) dX4_cellsOfKind_17 lm_X4_44 cv_X4_kindAt ha.1 (Nat.le_of_ble_eq_true rfl) (Nat.le_of_ble_eq_true rfl) rfl (c_kindAt hp hP ha (c := i) (by omega) hS.2 hV.2 d) ?_
    refine z_iload_n dX4_cellsOfKind_20 rfl ?_
    refine zn_icmp_ne (tgt := 30) dX4_cellsOfKind_21 (by decide) (by omega) (by omega) (fun hc21 => ?_) (fun hc21 => ?_)
    · refine zn_iinc3 dX4_cellsOfKind_30 rfl ?_
      refine z_goto (tgt := 4) dX4_cellsOfKind_33 (by decide) ?_
      rw [bset_f (f := ckf p cut k) (by simpa [ckf] using hc21)]; exact ih (i + 1) (by omega)
    · refine z_iload_n dX4_cellsOfKind_24 rfl ?_
      refine z_iconst (v := nI 1) dX4_cellsOfKind_25 rfl ?_
      refine z_iload_n dX4_cellsOfKind_26 rfl ?_
      refine zn_ishl dX4_cellsOfKind_27 (by omega) (by have : 1 * 2 ^ i ≤ 1 * 2 ^ 20 := Nat.mul_le_mul_left 1 (Nat.pow_le_pow_right (by decide) (by omega)); omega) ?_
      refine zn_ior dX4_cellsOfKind_28 ?_
      refine z_istore2 dX4_cellsOfKind_29 rfl ?_
      refine zn_iinc3 dX4_cellsOfKind_30 rfl ?_
      refine z_goto (tgt := 4) dX4_cellsOfKind_33 (by decide) ?_
      rw [bset_t (f := ckf p cut k) (by simpa [ckf] using hc21)]; exact ih (i + 1) (by omega)
set_option maxRecDepth 4000 in
theorem c_cellsOfKind {X : zX} {mu : zmu} {nu : znu} {p : PT} {P : Nat → Nat} {a cut : Nat} (hp : PV p) (hP : PFc p mu) (ha : sAt a) (hS : SFc p P cut a mu) (hV : SV p P cut) (k : Nat) (hk : k ≤ 3) (d : Nat) : zJ X M_X4_cellsOfKind (d + 1) 0 0 0 [.ref a, .int (nI k), zu, zu] [] 86 (zEE (mu) nu) (zlift (zex (some (.int (nI (bset (ckf p cut k) (pw p * ph p))))) (mu) nu)) := by
  refine z_iconst (v := nI 0) dX4_cellsOfKind_0 rfl ?_
  refine z_istore2 dX4_cellsOfKind_1 rfl ?_
  refine z_iconst (v := nI 0) dX4_cellsOfKind_2 rfl ?_
  refine z_istore3 dX4_cellsOfKind_3 rfl ?_
  exact c_cellsOfKind_l hp hP ha hS hV k hk d (pw p * ph p) 0 (by omega)
set_option maxRecDepth 4000 in
theorem c_cutAway {X : zX} {mu : zmu} {nu : znu} {a c cut : Nat} (ha : sAt a) (hcut : mu a 2 = nI cut) (hc : c < 20) (d : Nat) : zJ X M_X4_cutAway d 0 0 0 [.ref a, .int (nI c)] [] 86 (zEE (mu) nu) (zlift (zex none (u2 mu a 2 (nI (cut ||| 2 ^ c))) nu)) := by
  refine z_aload_n dX4_cutAway_0 rfl ?_
  refine z_dup dX4_cutAway_1 rfl ?_
  refine y_getIe dX4_cutAway_2 lf_X4_19 ha.1 rfl hcut ?_
  refine z_iconst (v := nI 1) dX4_cutAway_5 rfl ?_
  refine z_iload_n dX4_cutAway_6 rfl ?_
  refine zn_ishl dX4_cutAway_7 (by omega) (by have : 1 * 2 ^ c ≤ 1 * 2 ^ 20 := Nat.mul_le_mul_left 1 (Nat.pow_le_pow_right (by decide) (by omega)); omega) ?_
  rw [Nat.one_mul]
  refine zn_ior dX4_cutAway_8 ?_
  refine y_putI dX4_cutAway_9 lp_X4_19 ha.1 rfl ?_
  exact y_return dX4_cutAway_12 rfl ⟨rfl, rfl, rfl⟩
def wof (p : PT) (cut b pl y : Nat) : Bool := (pon p cut b pl y).isSome
set_option maxRecDepth 4000 in
theorem c_waysOpen_l {X : zX} {mu : zmu} {nu : znu} {p : PT} {P : Nat → Nat} {a cut : Nat} (hp : PV p) (hP : PFc p mu) (ha : sAt a) (hS : SFc p P cut a mu) (hV : SV p P cut) {b : Nat} (hb : b < pb p) (d : Nat) : ∀ n i, i + n = 4 → zJ X M_X4_waysOpen (d + 3) 0 0 4 [.ref a, .int (nI b), .int (nI (bset (wof p cut b (P b)) i)), .int (nI i)] [] 86 (zEE (mu) nu) (zlift (zex (some (.int (nI (bset (wof p cut b (P b)) 4)))) (mu) nu)) := by
  intro n
  induction n with
  | zero =>
    intro i hi
    have h5 := hp.2.2.2.2.2.1
    refine z_iload_n dX4_waysOpen_4 rfl ?_
    refine z_iconst (v := nI 4) dX4_waysOpen_5 rfl ?_
    refine zn_icmp_ge (tgt := 37) dX4_waysOpen_6 (by decide) (by omega) (by omega) (fun hc6 => ?_) (fun hc6 => by omega)
    refine z_iload_n dX4_waysOpen_37 rfl ?_
    exact y_ireturn dX4_waysOpen_38 rfl ⟨by rw [show i = 4 by omega], rfl, rfl⟩
  | succ n ih =>
    intro i hi
    have h5 := hp.2.2.2.2.2.1
    refine z_iload_n dX4_waysOpen_4 rfl ?_
    refine z_iconst (v := nI 4) dX4_waysOpen_5 rfl ?_
    refine zn_icmp_ge (tgt := 37) dX4_waysOpen_6 (by decide) (by omega) (by omega) (fun hc6 => by omega) (fun hc6 => ?_)
    refine z_aload_n dX4_waysOpen_9 rfl ?_
    refine z_iload_n dX4_waysOpen_10 rfl ?_
    refine z_aload_n dX4_waysOpen_11 rfl ?_
    refine y_getR dX4_waysOpen_12 lf_X4_9 ha.1 rfl ?_
    refine z_iload_n dX4_waysOpen_15 rfl ?_
    refine y_ialde dX4_waysOpen_16 ha.2 (by decide) (by omega) (hS.1 b hb) ?_
    refine z_iload_n dX4_waysOpen_17 rfl ?_
    refine y_callV3x (M' := M_X4_placeOn) dX4_waysOpen_18 lm_X4_65 cv_X4_placeOn ha.1 (Nat.le_of_ble_eq_true rfl) (Nat.le_of_ble_eq_true rfl) rfl (c_placeOn hp hP ha hb (hV.1 b hb).1 (hV.1 b hb).2 (y := i) (by omega) hS.2 hV.2 d) ?_
    refine z_iconst (v := -1) dX4_waysOpen_21 rfl ?_
    refine z_icmp_eq (tgt := 31) dX4_waysOpen_22 (by decide) (fun hc22 => ?_) (fun hc22 => ?_)
    · refine zn_iinc3 dX4_waysOpen_31 rfl ?_
      refine z_goto (tgt := 4) dX4_waysOpen_34 (by decide) ?_
      rw [bset_f (f := wof p cut b (P b)) (by rw [wof, (oI_m1 (fun q e => by have := (pon_ok hp hb (hV.1 b hb).2 (hV.1 b hb).1 (by omega) e).1; omega)).mp hc22]; rfl)]; exact ih (i + 1) (by omega)
    · refine z_iload_n dX4_waysOpen_25 rfl ?_
      refine z_iconst (v := nI 1) dX4_waysOpen_26 rfl ?_
      refine z_iload_n dX4_waysOpen_27 rfl ?_
      refine zn_ishl dX4_waysOpen_28 (by omega) (by have : 1 * 2 ^ i ≤ 1 * 2 ^ 4 := Nat.mul_le_mul_left 1 (Nat.pow_le_pow_right (by decide) (by omega)); omega) ?_
      refine zn_ior dX4_waysOpen_29 ?_
      refine z_istore2 dX4_waysOpen_30 rfl ?_
      refine zn_iinc3 dX4_waysOpen_31 rfl ?_
      refine z_goto (tgt := 4) dX4_waysOpen_34 (by decide) ?_
      rw [bset_t (f := wof p cut b (P b)) (by cases he : pon p cut b (P b) i with | none => exact absurd (by rw [he]; rfl) hc22 | some q => rw [wof, he]; rfl)]; exact ih (i + 1) (by omega)
set_option maxRecDepth 4000 in
theorem c_waysOpen {X : zX} {mu : zmu} {nu : znu} {p : PT} {P : Nat → Nat} {a cut : Nat} (hp : PV p) (hP : PFc p mu) (ha : sAt a) (hS : SFc p P cut a mu) (hV : SV p P cut) {b : Nat} (hb : b < pb p) (d : Nat) : zJ X M_X4_waysOpen (d + 3) 0 0 0 [.ref a, .int (nI b), zu, zu] [] 86 (zEE (mu) nu) (zlift (zex (some (.int (nI (bset (wof p cut b (P b)) 4)))) (mu) nu)) := by
  refine z_iconst (v := nI 0) dX4_waysOpen_0 rfl ?_
  refine z_istore2 dX4_waysOpen_1 rfl ?_
  refine z_iconst (v := nI 0) dX4_waysOpen_2 rfl ?_
  refine z_istore3 dX4_waysOpen_3 rfl ?_
  exact c_waysOpen_l hp hP ha hS hV hb d 4 0 (by omega)
theorem hear_no {w h dd c q : Nat} (h0 : ¬ c = q) (hn : ∀ y, y < 4 → ¬ nbc w h dd c y = q) : hear w h dd c q = false := by
  simp [hear, h0, hn 0 (by decide), hn 1 (by decide), hn 2 (by decide), hn 3 (by decide)]
theorem hear_yes {w h dd c q y : Nat} (hy : y < 4) (e : nbc w h dd c y = q) : hear w h dd c q = true := by
  obtain rfl | rfl | rfl | rfl : y = 0 ∨ y = 1 ∨ y = 2 ∨ y = 3 := by omega
  all_goals simp [hear, e]
set_option maxRecDepth 4000 in
theorem c_doesHear_l {X : zX} {mu : zmu} {nu : znu} {p : PT} {P : Nat → Nat} {a cut : Nat} (hp : PV p) (hP : PFc p mu) (ha : sAt a) (hS : SFc p P cut a mu) (hV : SV p P cut) {b q : Nat} (hb : b < pb p) (hq : q < pw p * ph p) (h0 : ¬ P b % 20 = q) (d : Nat) : ∀ n i, i + n = 4 → (∀ y, y < i → ¬ nbc (pw p) (ph p) (pdx p (pX p b)) (P b % 20) y = q) → zJ X M_X4_doesHear (d + 1) 0 0 30 [.ref a, .int (nI b), .int (nI q), .int (nI (P b % 20)), .int (b2i (pX p b == 3)), .int (nI i)] [] 86 (zEE (mu) nu) (zlift (zex (some (.int (b2i (hear (pw p) (ph p) (pdx p (pX p b)) (P b % 20) q)))) (mu) nu)) := by
  intro n
  induction n with
  | zero =>
    intro i hi
    have h20 := hp.n20
    intro hno
    refine z_iload dX4_doesHear_30 rfl ?_
    refine z_iconst (v := nI 4) dX4_doesHear_32 rfl ?_
    refine zn_icmp_ge (tgt := 60) dX4_doesHear_33 (by decide) (by omega) (by omega) (fun hc33 => ?_) (fun hc33 => by omega)
    refine z_iconst (v := nI 0) dX4_doesHear_60 rfl ?_
    exact y_zreturn dX4_doesHear_61 rfl (by first | exact Or.inl rfl | exact Or.inr rfl | assumption) ⟨by rw [b2i_f (hear_no h0 (fun y hy => hno y (by omega)))], rfl, rfl⟩
  | succ n ih =>
    intro i hi
    have h20 := hp.n20
    intro hno
    have hnl := nbc_lt hp (pdx_lt hp (pX p b)) (hV.1 b hb).2 (y := i) (by omega)
    refine z_iload dX4_doesHear_30 rfl ?_
    refine z_iconst (v := nI 4) dX4_doesHear_32 rfl ?_
    refine zn_icmp_ge (tgt := 60) dX4_doesHear_33 (by decide) (by omega) (by omega) (fun hc33 => by omega) (fun hc33 => ?_)
    refine z_aload_n dX4_doesHear_36 rfl ?_
    refine y_getR dX4_doesHear_37 lf_X4_15 ha.1 rfl ?_
    refine z_iload_n dX4_doesHear_40 rfl ?_
    refine z_iload dX4_doesHear_41 rfl ?_
    refine z_iload dX4_doesHear_43 rfl ?_
    refine y_callV3x (M' := M_X3_cellBeside) dX4_doesHear_45 lm_X4_84 cv_X3_cellBeside rfl (Nat.le_of_ble_eq_true rfl) (Nat.le_of_ble_eq_true rfl) rfl (c_cellBeside (y := i) hp hP (hV.1 b hb).2 (by omega) (pX p b == 3) d) ?_
    rw [pdx_b]
    refine z_iload_n dX4_doesHear_48 rfl ?_
    refine zn_icmp_ne (tgt := 54) dX4_doesHear_49 (by decide) (by omega) (by omega) (fun hc49 => ?_) (fun hc49 => ?_)
    · refine zn_iinc5 dX4_doesHear_54 rfl ?_
      refine z_goto (tgt := 30) dX4_doesHear_57 (by decide) ?_
      exact ih (i + 1) (by omega) (fun y hy => by rcases Nat.lt_or_ge y i with g | g; exact hno y g; rw [show y = i by omega]; exact hc49)
    · refine z_iconst (v := nI 1) dX4_doesHear_52 rfl ?_
      exact y_zreturn dX4_doesHear_53 rfl (by first | exact Or.inl rfl | exact Or.inr rfl | assumption) ⟨by rw [b2i_t (hear_yes (y := i) (by omega) hc49)], rfl, rfl⟩
set_option maxRecDepth 4000 in
theorem c_doesHear {X : zX} {mu : zmu} {nu : znu} {p : PT} {P : Nat → Nat} {a cut : Nat} (hp : PV p) (hP : PFc p mu) (ha : sAt a) (hS : SFc p P cut a mu) (hV : SV p P cut) {b q : Nat} (hb : b < pb p) (hq : q < pw p * ph p) (d : Nat) : zJ X M_X4_doesHear (d + 1) 0 0 0 [.ref a, .int (nI b), .int (nI q), zu, zu, zu] [] 86 (zEE (mu) nu) (zlift (zex (some (.int (b2i (hear (pw p) (ph p) (pdx p (pX p b)) (P b % 20) q)))) (mu) nu)) := by
  have h5 := hp.2.2.2.2.2.1
  have h20 := hp.n20
  have hV1 := hV.1 b hb
  refine z_aload_n dX4_doesHear_0 rfl ?_
  refine y_getR dX4_doesHear_1 lf_X4_9 ha.1 rfl ?_
  refine z_iload_n dX4_doesHear_4 rfl ?_
  refine y_ialde dX4_doesHear_5 ha.2 (by decide) (by omega) (hS.1 b hb) ?_
  refine y_callSN1x (M' := M_X8_cellOf) dX4_doesHear_6 ln_X4_58 cs_X8_cellOf (Nat.le_of_ble_eq_true rfl) (Nat.le_of_ble_eq_true rfl) rfl (c_cellOf (P b) (by omega) d) ?_
  refine z_istore3 dX4_doesHear_9 rfl ?_
  refine z_iload_n dX4_doesHear_10 rfl ?_
  refine z_iload_n dX4_doesHear_11 rfl ?_
  refine zn_icmp_ne (tgt := 17) dX4_doesHear_12 (by decide) (by omega) (by omega) (fun hc12 => ?_) (fun hc12 => ?_)
  · refine z_aload_n dX4_doesHear_17 rfl ?_
    refine y_getR dX4_doesHear_18 lf_X4_15 ha.1 rfl ?_
    refine z_iload_n dX4_doesHear_21 rfl ?_
    refine y_callV1x (M' := M_X3_goesStraight) dX4_doesHear_22 lm_X4_50 cv_X3_goesStraight rfl (Nat.le_of_ble_eq_true rfl) (Nat.le_of_ble_eq_true rfl) rfl (c_goesStraight hp hP hb d) ?_
    refine z_istore4 dX4_doesHear_25 rfl ?_
    refine z_iconst (v := nI 0) dX4_doesHear_27 rfl ?_
    refine z_istore5 dX4_doesHear_28 rfl ?_
    exact c_doesHear_l hp hP ha hS hV hb hq hc12 d 4 0 (by omega) (fun y hy => by omega)
  · refine z_iconst (v := nI 1) dX4_doesHear_15 rfl ?_
    exact y_zreturn dX4_doesHear_16 rfl (by first | exact Or.inl rfl | exact Or.inr rfl | assumption) ⟨by rw [b2i_t (by simp [hear, hc12])], rfl, rfl⟩
/-- those who hear at q are home -/
def hrb (p : PT) (P : Nat → Nat) (q b : Nat) : Bool := hear (pw p) (ph p) (pdx p (pX p b)) (P b % 20) q
def brg (p : PT) (P : Nat → Nat) (q b : Nat) : Nat := if hrb p P q b = true then 480 + pH p b else P b
def brf (p : PT) (P : Nat → Nat) (q b : Nat) : Bool := !hmf p P b && hrb p P q b
/-- the row of places when those below i were called -/
def brr (p : PT) (P : Nat → Nat) (q : Nat) (f : Nat → Int32) (i b : Nat) : Int32 := if b < i ∧ brf p P q b = true then nI (480 + pH p b) else f b
theorem brr_f {p : PT} {P : Nat → Nat} {q i : Nat} {f : Nat → Int32} (h : brf p P q i = false) : brr p P q f i = brr p P q f (i + 1) := by
  funext b
  unfold brr
  by_cases hb : b = i
  · subst hb; simp [h]
  · by_cases h1 : b < i
    · simp [h1, show b < i + 1 by omega]
    · simp [h1, show ¬ b < i + 1 by omega]
theorem brr_t {p : PT} {P : Nat → Nat} {q i a : Nat} {mu : zmu} (h : brf p P q i = true) : u2 (uR mu a (brr p P q (mu a) i)) a i (nI (480 + pH p i)) = uR mu a (brr p P q (mu a) (i + 1)) := by
  funext x b
  unfold u2 uR
  by_cases hx : x = a
  · rw [if_pos hx, if_pos hx, if_pos hx]
    unfold brr
    by_cases hb : b = i
    · subst hb; simp [h]
    · by_cases h1 : b < i
      · simp [hb, h1, show b < i + 1 by omega]
      · simp [hb, h1, show ¬ b < i + 1 by omega]
  · rw [if_neg hx, if_neg hx, if_neg hx]
theorem brr_0 {p : PT} {P : Nat → Nat} {q a : Nat} {mu : zmu} : uR mu a (brr p P q (mu a) 0) = mu := by
  funext x b
  unfold uR brr
  by_cases hx : x = a
  · rw [if_pos hx, hx]; simp
  · rw [if_neg hx]
theorem sAt_big {a : Nat} (ha : sAt a) : 10 ≤ a := by
  rcases Nat.lt_or_ge a 10 with h | h
  · exfalso
    have h1 := ha.1
    obtain rfl | rfl | rfl | rfl | rfl | rfl | rfl | rfl | rfl | rfl : a = 0 ∨ a = 1 ∨ a = 2 ∨ a = 3 ∨ a = 4 ∨ a = 5 ∨ a = 6 ∨ a = 7 ∨ a = 8 ∨ a = 9 := by omega
    all_goals (revert h1; decide)
  · exact h
theorem PFc_uR {p : PT} {mu : zmu} {a : Nat} {f : Nat → Int32} (h : PFc p mu) (ha : 10 ≤ a) : PFc p (uR mu a f) := by
  unfold PFc at *
  simp only [uR_a (show 3 ≠ a by omega), uR_a (show 4 ≠ a by omega), uR_a (show 5 ≠ a by omega), uR_a (show 6 ≠ a by omega), uR_a (show 7 ≠ a by omega), uR_a (show 8 ≠ a by omega), uR_a (show 9 ≠ a by omega)]
  exact h
theorem PFc_u2 {p : PT} {mu : zmu} {a k : Nat} {v : Int32} (h : PFc p mu) (ha : 10 ≤ a) : PFc p (u2 mu a k v) := by
  unfold PFc at *
  simp only [u2_rowa (show 3 ≠ a by omega), u2_rowa (show 4 ≠ a by omega), u2_rowa (show 5 ≠ a by omega), u2_rowa (show 6 ≠ a by omega), u2_rowa (show 7 ≠ a by omega), u2_rowa (show 8 ≠ a by omega), u2_rowa (show 9 ≠ a by omega)]
  exact h
theorem brS {p : PT} {P : Nat → Nat} {cut a q i : Nat} {mu : zmu} (hS : SFc p P cut a mu) : SFc p (fun b => if b < i ∧ brf p P q b = true then 480 + pH p b else P b) cut a (uR mu (a + 1) (brr p P q (mu (a + 1)) i)) := by
  refine ⟨fun b hb => ?_, ?_⟩
  · rw [uR_s]; unfold brr
    by_cases h : b < i ∧ brf p P q b = true
    · show _ = nI (if b < i ∧ brf p P q b = true then 480 + pH p b else P b)
      rw [if_pos h, if_pos h]
    · show _ = nI (if b < i ∧ brf p P q b = true then 480 + pH p b else P b)
      rw [if_neg h, if_neg h]; exact hS.1 b hb
  · rw [uR_a (by omega)]; exact hS.2
theorem brV {p : PT} (hp : PV p) {P : Nat → Nat} {cut : Nat} (hV : SV p P cut) (f : Nat → Prop) [DecidablePred f] : SV p (fun b => if f b then 480 + pH p b else P b) cut := by
  refine ⟨fun b hb => ?_, hV.2⟩
  have h1 := hp.n20
  have h2 := (hp.2.2.2.2.2.2.2 b hb).1
  by_cases h : f b
  · simp only [h, if_true]; omega
  · simp only [h, if_false]; exact hV.1 b hb
set_option maxRecDepth 4000 in
theorem c_bringHome_l {X : zX} {mu : zmu} {nu : znu} {p : PT} {P : Nat → Nat} {a cut : Nat} (hp : PV p) (hP : PFc p mu) (ha : sAt a) (hS : SFc p P cut a mu) (hV : SV p P cut) {q : Nat} (hq : q < pw p * ph p) (d : Nat) : ∀ n i, i + n = pb p → zJ X M_X4_bringHome (d + 2) 0 0 4 [.ref a, .int (nI q), .int (nI (bcnt (brf p P q) i)), .int (nI i)] [] 86 (zEE (uR mu (a + 1) (brr p P q (mu (a + 1)) i)) nu) (zlift (zex (some (.int (nI (bcnt (brf p P q) (pb p))))) (uR mu (a + 1) (brr p P q (mu (a + 1)) (pb p))) nu)) := by
  intro n
  induction n with
  | zero =>
    intro i hi
    have h5 := hp.2.2.2.2.2.1
    have hg : 10 ≤ a + 1 := Nat.le_succ_of_le (sAt_big ha)
    refine z_iload_n dX4_bringHome_4 rfl ?_
    refine z_aload_n dX4_bringHome_5 rfl ?_
    refine y_getR dX4_bringHome_6 lf_X4_15 ha.1 rfl ?_
    refine y_getIe dX4_bringHome_9 lf_X4_23 rfl rfl (PFc_uR hP hg).2.2.2.2.1 ?_
    refine zn_icmp_ge (tgt := 52) dX4_bringHome_12 (by decide) (by omega) (by omega) (fun hc12 => ?_) (fun hc12 => by omega)
    refine z_iload_n dX4_bringHome_52 rfl ?_
    exact y_ireturn dX4_bringHome_53 rfl ⟨by rw [show i = pb p by omega], by rw [show i = pb p by omega], rfl⟩
  | succ n ih =>
    intro i hi
    have h5 := hp.2.2.2.2.2.1
    have hg : 10 ≤ a + 1 := Nat.le_succ_of_le (sAt_big ha)
    have hin : ¬ (i < i ∧ brf p P q i = true) := fun h => Nat.lt_irrefl _ h.1
    refine z_iload_n dX4_bringHome_4 rfl ?_
    refine z_aload_n dX4_bringHome_5 rfl ?_
    refine y_getR dX4_bringHome_6 lf_X4_15 ha.1 rfl ?_
    refine y_getIe dX4_bringHome_9 lf_X4_23 rfl rfl (PFc_uR hP hg).2.2.2.2.1 ?_
    refine zn_icmp_ge (tgt := 52) dX4_bringHome_12 (by decide) (by omega) (by omega) (fun hc12 => by omega) (fun hc12 => ?_)
    refine z_aload_n dX4_bringHome_15 rfl ?_
    refine z_iload_n dX4_bringHome_16 rfl ?_
    refine y_callV1x (M' := M_X4_isHome) dX4_bringHome_17 lm_X4_72 cv_X4_isHome ha.1 (Nat.le_of_ble_eq_true rfl) (Nat.le_of_ble_eq_true rfl) rfl (c_isHome hp (PFc_uR hP hg) ha (brS (q := q) (i := i) hS) (brV hp hV (fun b => b < i ∧ brf p P q b = true)) (b := i) (by omega) d) ?_
    simp only [hin, if_false]
    refine zb_if_ne (tgt := 46) dX4_bringHome_20 (by decide) (fun hc20 => ?_) (fun hc20 => ?_)
    · refine zn_iinc3 dX4_bringHome_46 rfl ?_
      refine z_goto (tgt := 4) dX4_bringHome_49 (by decide) ?_
      have hbf : brf p P q i = false := (by simp [brf, hmf, hc20]); rw [brr_f hbf, show bcnt (brf p P q) i = bcnt (brf p P q) (i + 1) by rw [bcnt_s, hbf]; rfl]; exact ih (i + 1) (by omega)
    · refine z_aload_n dX4_bringHome_23 rfl ?_
      refine z_iload_n dX4_bringHome_24 rfl ?_
      refine z_iload_n dX4_bringHome_25 rfl ?_
      refine y_callV2x (M' := M_X4_doesHear) dX4_bringHome_26 lm_X4_87 cv_X4_doesHear ha.1 (Nat.le_of_ble_eq_true rfl) (Nat.le_of_ble_eq_true rfl) rfl (c_doesHear hp (PFc_uR hP hg) ha (brS (q := q) (i := i) hS) (brV hp hV (fun b => b < i ∧ brf p P q b = true)) (b := i) (by omega) hq d) ?_
      simp only [hin, if_false]
      refine zb_if_eq (tgt := 46) dX4_bringHome_29 (by decide) (fun hc29 => ?_) (fun hc29 => ?_)
      · refine zn_iinc3 dX4_bringHome_46 rfl ?_
        refine z_goto (tgt := 4) dX4_bringHome_49 (by decide) ?_
        have hbf : brf p P q i = false := (by unfold brf hrb; rw [hc29]; simp); rw [brr_f hbf, show bcnt (brf p P q) i = bcnt (brf p P q) (i + 1) by rw [bcnt_s, hbf]; rfl]; exact ih (i + 1) (by omega)
      · have hbf : brf p P q i = true := (by unfold brf hmf hrb; rw [hc20, hc29]; rfl)
        refine z_aload_n dX4_bringHome_32 rfl ?_
        refine y_getR dX4_bringHome_33 lf_X4_9 ha.1 rfl ?_
        refine z_iload_n dX4_bringHome_36 rfl ?_
        refine z_aload_n dX4_bringHome_37 rfl ?_
        refine z_iload_n dX4_bringHome_38 rfl ?_
        refine y_callV1x (M' := M_X4_homePlace) dX4_bringHome_39 lm_X4_28 cv_X4_homePlace ha.1 (Nat.le_of_ble_eq_true rfl) (Nat.le_of_ble_eq_true rfl) rfl (c_homePlace hp (PFc_uR hP hg) ha (b := i) (by omega) (d + 1)) ?_
        refine y_iast dX4_bringHome_42 ha.2 (by decide) (by omega) ?_
        refine zn_iinc2 dX4_bringHome_43 rfl ?_
        refine zn_iinc3 dX4_bringHome_46 rfl ?_
        refine z_goto (tgt := 4) dX4_bringHome_49 (by decide) ?_
        rw [brr_t hbf, show bcnt (brf p P q) i + 1 = bcnt (brf p P q) (i + 1) by rw [bcnt_s, hbf]; rfl]; exact ih (i + 1) (by omega)
set_option maxRecDepth 4000 in
theorem c_bringHome {X : zX} {mu : zmu} {nu : znu} {p : PT} {P : Nat → Nat} {a cut : Nat} (hp : PV p) (hP : PFc p mu) (ha : sAt a) (hS : SFc p P cut a mu) (hV : SV p P cut) {q : Nat} (hq : q < pw p * ph p) (d : Nat) : zJ X M_X4_bringHome (d + 2) 0 0 0 [.ref a, .int (nI q), zu, zu] [] 86 (zEE (mu) nu) (zlift (zex (some (.int (nI (bcnt (brf p P q) (pb p))))) (uR mu (a + 1) (brr p P q (mu (a + 1)) (pb p))) nu)) := by
  refine z_iconst (v := nI 0) dX4_bringHome_0 rfl ?_
  refine z_istore2 dX4_bringHome_1 rfl ?_
  refine z_iconst (v := nI 0) dX4_bringHome_2 rfl ?_
  refine z_istore3 dX4_bringHome_3 rfl ?_
  have h := c_bringHome_l (X := X) (nu := nu) hp hP ha hS hV hq d (pb p) 0 (by omega); rw [brr_0] at h; exact h
set_option maxRecDepth 4000 in
theorem c_become {X : zX} {mu : zmu} {nu : znu} {a a2 : Nat} (ha : sAt a) (ha2 : sAt a2) (hne : a ≠ a2 + 1) (d : Nat) : zJ X M_X4_become (d + 1) 0 0 0 [.ref a, .ref a2] [] 86 (zEE (mu) nu) (zlift (zex none (uR (u2 mu a 2 (mu a2 2)) (a + 1) (va_cpy (mu (a2 + 1)) (mu (a + 1)) 0 0 5)) nu)) := by
  refine z_aload_n dX4_become_0 rfl ?_
  refine z_aload_n dX4_become_1 rfl ?_
  refine y_getI dX4_become_2 lf_X4_19 ha2.1 rfl ?_
  refine y_putI dX4_become_5 lp_X4_19 ha.1 rfl ?_
  refine z_aload_n dX4_become_8 rfl ?_
  refine y_getR dX4_become_9 lf_X4_9 ha2.1 rfl ?_
  refine z_iconst (v := nI 0) dX4_become_12 rfl ?_
  refine z_aload_n dX4_become_13 rfl ?_
  refine y_getR dX4_become_14 lf_X4_9 ha.1 rfl ?_
  refine z_iconst (v := nI 0) dX4_become_17 rfl ?_
  refine z_iconst (v := nI 5) dX4_become_18 rfl ?_
  refine y_copy dX4_become_19 lm_X4_32 ha2.2 ha.2 (by decide) (by decide) (by decide) (by decide) (by decide) (by omega) (Nat.le_of_ble_eq_true rfl) ?_
  exact y_return dX4_become_22 rfl ⟨rfl, by rw [u2_rowa (by omega), u2_rowa (by omega)], rfl⟩
def bgr (p : PT) (f : Nat → Int32) (i b : Nat) : Int32 := if b < i then nI (480 + pH p b) else f b
theorem bgr_s {p : PT} {i a : Nat} {mu : zmu} {f : Nat → Int32} : u2 (uR mu a (bgr p f i)) a i (nI (480 + pH p i)) = uR mu a (bgr p f (i + 1)) := by
  funext x b
  unfold u2 uR
  by_cases hx : x = a
  · rw [if_pos hx, if_pos hx, if_pos hx]
    unfold bgr
    by_cases hb : b = i
    · subst hb; simp
    · by_cases h1 : b < i
      · simp [hb, h1, show b < i + 1 by omega]
      · simp [hb, h1, show ¬ b < i + 1 by omega]
  · rw [if_neg hx, if_neg hx, if_neg hx]
theorem bgr_0 {p : PT} {a : Nat} {mu : zmu} : uR mu a (bgr p (mu a) 0) = mu := by
  funext x b
  unfold uR bgr
  by_cases hx : x = a
  · rw [if_pos hx, hx]; simp
  · rw [if_neg hx]
set_option maxRecDepth 4000 in
theorem c_begin_l {X : zX} {mu : zmu} {nu : znu} {p : PT} {a : Nat} (hp : PV p) (hP : PFc p mu) (ha : sAt a) (d : Nat) : ∀ n i, i + n = pb p → zJ X M_X4_begin (d + 1) 0 0 7 [.ref a, .int (nI i)] [] 86 (zEE (uR mu (a + 1) (bgr p (mu (a + 1)) i)) nu) (zlift (zex none (uR mu (a + 1) (bgr p (mu (a + 1)) (pb p))) nu)) := by
  intro n
  induction n with
  | zero =>
    intro i hi
    have h5 := hp.2.2.2.2.2.1
    have hg : 10 ≤ a + 1 := Nat.le_succ_of_le (sAt_big ha)
    refine z_iload_n dX4_begin_7 rfl ?_
    refine z_aload_n dX4_begin_8 rfl ?_
    refine y_getR dX4_begin_9 lf_X4_15 ha.1 rfl ?_
    refine y_getIe dX4_begin_12 lf_X4_23 rfl rfl (PFc_uR hP hg).2.2.2.2.1 ?_
    refine zn_icmp_ge (tgt := 35) dX4_begin_15 (by decide) (by omega) (by omega) (fun hc15 => ?_) (fun hc15 => by omega)
    exact y_return dX4_begin_35 rfl ⟨rfl, by rw [show i = pb p by omega], rfl⟩
  | succ n ih =>
    intro i hi
    have h5 := hp.2.2.2.2.2.1
    have hg : 10 ≤ a + 1 := Nat.le_succ_of_le (sAt_big ha)
    refine z_iload_n dX4_begin_7 rfl ?_
    refine z_aload_n dX4_begin_8 rfl ?_
    refine y_getR dX4_begin_9 lf_X4_15 ha.1 rfl ?_
    refine y_getIe dX4_begin_12 lf_X4_23 rfl rfl (PFc_uR hP hg).2.2.2.2.1 ?_
    refine zn_icmp_ge (tgt := 35) dX4_begin_15 (by decide) (by omega) (by omega) (fun hc15 => by omega) (fun hc15 => ?_)
    refine z_aload_n dX4_begin_18 rfl ?_
    refine y_getR dX4_begin_19 lf_X4_9 ha.1 rfl ?_
    refine z_iload_n dX4_begin_22 rfl ?_
    refine z_aload_n dX4_begin_23 rfl ?_
    refine z_iload_n dX4_begin_24 rfl ?_
    refine y_callV1x (M' := M_X4_homePlace) dX4_begin_25 lm_X4_28 cv_X4_homePlace ha.1 (Nat.le_of_ble_eq_true rfl) (Nat.le_of_ble_eq_true rfl) rfl (c_homePlace hp (PFc_uR hP hg) ha (b := i) (by omega) d) ?_
    refine y_iast dX4_begin_28 ha.2 (by decide) (by omega) ?_
    rw [bgr_s]
    refine zn_iinc1 dX4_begin_29 rfl ?_
    refine z_goto (tgt := 7) dX4_begin_32 (by decide) ?_
    exact ih (i + 1) (by omega)
set_option maxRecDepth 4000 in
theorem c_begin {X : zX} {mu : zmu} {nu : znu} {p : PT} {a : Nat} (hp : PV p) (hP : PFc p mu) (ha : sAt a) (d : Nat) : zJ X M_X4_begin (d + 1) 0 0 0 [.ref a, zu] [] 86 (zEE (mu) nu) (zlift (zex none (uR (u2 mu a 2 0) (a + 1) (bgr p (mu (a + 1)) (pb p))) nu)) := by
  have hg := sAt_big ha
  refine z_aload_n dX4_begin_0 rfl ?_
  refine z_iconst (v := nI 0) dX4_begin_1 rfl ?_
  refine y_putI dX4_begin_2 lp_X4_19 ha.1 rfl ?_
  refine z_iconst (v := nI 0) dX4_begin_5 rfl ?_
  refine z_istore1 dX4_begin_6 rfl ?_
  have h := c_begin_l (X := X) (nu := nu) hp (PFc_u2 (k := 2) (v := 0) hP hg) ha d (pb p) 0 (by omega); rw [bgr_0, u2_rowa (by omega)] at h; exact h
