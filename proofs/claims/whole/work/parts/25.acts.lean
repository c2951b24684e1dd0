/-- a row filled up to i -/
def fil (g f : Nat → Int32) (i j : Nat) : Int32 := if j < i then g j else f j
theorem fil_s {mu : zmu} {a i : Nat} {g f : Nat → Int32} : u2 (uR mu a (fil g f i)) a i (g i) = uR mu a (fil g f (i + 1)) := by
  funext x b
  unfold u2 uR
  by_cases hx : x = a
  · rw [if_pos hx, if_pos hx, if_pos hx]
    unfold fil
    by_cases hb : b = i
    · subst hb; simp
    · by_cases h1 : b < i
      · simp [hb, h1, show b < i + 1 by omega]
      · simp [hb, h1, show ¬ b < i + 1 by omega]
  · rw [if_neg hx, if_neg hx, if_neg hx]
theorem fil_0 {mu : zmu} {a : Nat} {g : Nat → Int32} : uR mu a (fil g (mu a) 0) = mu := by
  funext x b
  unfold uR fil
  by_cases hx : x = a
  · rw [if_pos hx, hx]; simp
  · rw [if_neg hx]
theorem fil_lt {g f : Nat → Int32} {i j : Nat} (h : j < i) : fil g f i j = g j := by simp [fil, h]
theorem u2_uR {mu : zmu} {a b k : Nat} {v : Int32} {f : Nat → Int32} (h : a ≠ b) : u2 (uR mu b f) a k v = uR (u2 mu a k v) b f := by
  funext x j
  unfold u2 uR
  by_cases hx : x = a
  · subst hx; simp [h]
  · simp [hx]
theorem PFc_eq {p : PT} {mu mu' : zmu} (h : PFc p mu) (e : ∀ a, 3 ≤ a → a ≤ 9 → mu' a = mu a) : PFc p mu' := by
  unfold PFc at *
  rw [e 3 (by decide) (by decide), e 4 (by decide) (by decide), e 5 (by decide) (by decide), e 6 (by decide) (by decide), e 7 (by decide) (by decide), e 8 (by decide) (by decide), e 9 (by decide) (by decide)]
  exact h
theorem SFc_eq {p : PT} {P : Nat → Nat} {cut a : Nat} {mu mu' : zmu} (h : SFc p P cut a mu) (e1 : mu' a = mu a) (e2 : mu' (a + 1) = mu (a + 1)) : SFc p P cut a mu' := by
  unfold SFc at *
  rw [e1, e2]; exact h
theorem sAt10 : sAt 10 := ⟨rfl, rfl⟩
theorem sAt12 : sAt 12 := ⟨rfl, rfl⟩
theorem sAt_act : ∀ i, i < 14 → sAt (16 + 2 * i) := by unfold sAt; decide
theorem sAt_slot : ∀ i, i < 2 → sAt (62 + 2 * i) := by unfold sAt; decide
theorem sAt_ne {a b : Nat} (ha : sAt a) (hb : sAt b) : a ≠ b + 1 := by
  intro e
  have h1 := ha.1
  rw [e, hb.2] at h1
  cases h1
/-- scene a becomes scene b -/
def bec (mu : zmu) (a b : Nat) : zmu := uR (u2 mu a 2 (mu b 2)) (a + 1) (va_cpy (mu (b + 1)) (mu (a + 1)) 0 0 5)
theorem act_r : ∀ i, i < 14 → ([16, 18, 20, 22, 24, 26, 28, 30, 32, 34, 36, 38, 40, 42] : List Nat)[i]? = some (16 + 2 * i) := by decide
theorem slot_r : ∀ i, i < 2 → ([62, 64] : List Nat)[i]? = some (62 + 2 * i) := by decide
theorem imin {a b : Nat} (ha : a < 2 ^ 31) (hb : b < 2 ^ 31) : (if nI b < nI a then nI b else nI a) = nI (min a b) := by
  by_cases h : b < a
  · rw [if_pos (nI_lt h ha), Nat.min_eq_right (by omega)]
  · rw [if_neg (nI_nlt (by omega) hb), Nat.min_eq_left (by omega)]
set_option maxRecDepth 4000 in
theorem c_become2 {X : zX} {mu : zmu} {nu : znu} {a a2 : Nat} (ha : sAt a) (ha2 : sAt a2) (d : Nat) : zJ X M_X4_become (d + 1) 0 0 0 [.ref a, .ref a2] [] 86 (zEE (mu) nu) (zlift (zex none (bec mu a a2) nu)) := by
  exact c_become ha ha2 (sAt_ne ha ha2) d
def remM (mu : zmu) (nx ct a : Nat) : zmu := u2 (u2 (bec mu (16 + 2 * nx) a) 14 1 (nI (if nx + 1 < 14 then nx + 1 else 0))) 14 2 (nI (min (ct + 1) 14))
theorem bec_o {mu : zmu} {a b x : Nat} (h1 : x ≠ a) (h2 : x ≠ a + 1) : bec mu a b x = mu x := by rw [bec, uR_a h2, u2_rowa h1]
set_option maxRecDepth 4000 in
theorem c_remember {X : zX} {mu : zmu} {nu : znu} {a nx ct : Nat} (ha : sAt a) (hnx : mu 14 1 = nI nx) (hct : mu 14 2 = nI ct) (hx : nx < 14) (hc : ct ≤ 14) (d : Nat) : zJ X M_X0_remember (d + 2) 0 0 0 [.ref 14, .ref a] [] 86 (zEE (mu) nu) (zlift (zex none (remM mu nx ct a) nu)) := by
  refine z_aload_n dX0_remember_0 rfl ?_
  refine y_getR dX0_remember_1 lf_X0_11 rfl rfl ?_
  refine z_aload_n dX0_remember_4 rfl ?_
  refine y_getIe dX0_remember_5 lf_X0_20 rfl rfl hnx ?_
  refine y_aald dX0_remember_8 rfl (by decide) hx (act_r nx hx) (by omega) ?_
  refine z_aload_n dX0_remember_9 rfl ?_
  refine y_callV1x (M' := M_X4_become) dX0_remember_10 lm_X0_24 cv_X4_become (sAt_act nx hx).1 (Nat.le_of_ble_eq_true rfl) (Nat.le_of_ble_eq_true rfl) rfl (c_become2 (sAt_act nx hx) ha d) ?_
  refine z_aload_n dX0_remember_13 rfl ?_
  refine z_aload_n dX0_remember_14 rfl ?_
  refine y_getIe dX0_remember_15 lf_X0_20 rfl rfl ((congrFun (bec_o (by omega) (by omega)) 1).trans hnx) ?_
  refine z_iconst (v := nI 1) dX0_remember_18 rfl ?_
  refine zn_iadd dX0_remember_19 ?_
  refine z_bipush (v := nI 14) dX0_remember_20 rfl ?_
  refine zn_icmp_ge (tgt := 34) dX0_remember_22 (by decide) (by omega) (by omega) (fun hc22 => ?_) (fun hc22 => ?_)
  · refine z_iconst (v := nI 0) dX0_remember_34 rfl ?_
    refine y_putI dX0_remember_35 lp_X0_20 rfl rfl ?_
    refine z_aload_n dX0_remember_38 rfl ?_
    refine z_aload_n dX0_remember_39 rfl ?_
    refine y_getIe dX0_remember_40 lf_X0_28 rfl rfl ((u2_k (by decide)).trans ((congrFun (bec_o (by omega) (by omega)) 2).trans hct)) ?_
    refine z_iconst (v := nI 1) dX0_remember_43 rfl ?_
    refine zn_iadd dX0_remember_44 ?_
    refine z_bipush (v := nI 14) dX0_remember_45 rfl ?_
    refine z_min dX0_remember_47 lm_X0_31 st_J9_min_7cf53 ini_RJ9 co_J9_min_7cf53 (Nat.le_of_ble_eq_true rfl) (by omega) ?_
    rw [imin (by omega) (by omega)]
    refine y_putI dX0_remember_50 lp_X0_28 rfl rfl ?_
    exact y_return dX0_remember_53 rfl ⟨rfl, by rw [remM, if_neg (by omega)], rfl⟩
  · refine z_aload_n dX0_remember_25 rfl ?_
    refine y_getIe dX0_remember_26 lf_X0_20 rfl rfl ((congrFun (bec_o (by omega) (by omega)) 1).trans hnx) ?_
    refine z_iconst (v := nI 1) dX0_remember_29 rfl ?_
    refine zn_iadd dX0_remember_30 ?_
    refine z_goto (tgt := 35) dX0_remember_31 (by decide) ?_
    refine y_putI dX0_remember_35 lp_X0_20 rfl rfl ?_
    refine z_aload_n dX0_remember_38 rfl ?_
    refine z_aload_n dX0_remember_39 rfl ?_
    refine y_getIe dX0_remember_40 lf_X0_28 rfl rfl ((u2_k (by decide)).trans ((congrFun (bec_o (by omega) (by omega)) 2).trans hct)) ?_
    refine z_iconst (v := nI 1) dX0_remember_43 rfl ?_
    refine zn_iadd dX0_remember_44 ?_
    refine z_bipush (v := nI 14) dX0_remember_45 rfl ?_
    refine z_min dX0_remember_47 lm_X0_31 st_J9_min_7cf53 ini_RJ9 co_J9_min_7cf53 (Nat.le_of_ble_eq_true rfl) (by omega) ?_
    rw [imin (by omega) (by omega)]
    refine y_putI dX0_remember_50 lp_X0_28 rfl rfl ?_
    exact y_return dX0_remember_53 rfl ⟨rfl, by rw [remM, if_pos (by omega)], rfl⟩
def prv (nx : Nat) : Nat := if 0 < nx then nx - 1 else 13
def tbM (mu : zmu) (nx ct a : Nat) : zmu := if ct = 0 then mu else bec (u2 (u2 mu 14 2 (nI (ct - 1))) 14 1 (nI (prv nx))) a (16 + 2 * prv nx)
theorem prv_lt {nx : Nat} (h : nx < 14) : prv nx < 14 := by unfold prv; split <;> omega
set_option maxRecDepth 4000 in
theorem c_takeBack {X : zX} {mu : zmu} {nu : znu} {a nx ct : Nat} (ha : sAt a) (hnx : mu 14 1 = nI nx) (hct : mu 14 2 = nI ct) (hx : nx < 14) (hc : ct ≤ 14) (d : Nat) : zJ X M_X0_takeBack (d + 2) 0 0 0 [.ref 14, .ref a] [] 86 (zEE (mu) nu) (zlift (zex (some (.int (b2i (decide (ct ≠ 0))))) (tbM mu nx ct a) nu)) := by
  refine z_aload_n dX0_takeBack_0 rfl ?_
  refine y_getIe dX0_takeBack_1 lf_X0_28 rfl rfl hct ?_
  refine zn_if_ne (tgt := 9) dX0_takeBack_4 (by decide) (by omega) (fun hc4 => ?_) (fun hc4 => ?_)
  · refine z_aload_n dX0_takeBack_9 rfl ?_
    refine z_dup dX0_takeBack_10 rfl ?_
    refine y_getIe dX0_takeBack_11 lf_X0_28 rfl rfl hct ?_
    refine z_iconst (v := nI 1) dX0_takeBack_14 rfl ?_
    refine zn_isub dX0_takeBack_15 (by omega) ?_
    refine y_putI dX0_takeBack_16 lp_X0_28 rfl rfl ?_
    refine z_aload_n dX0_takeBack_19 rfl ?_
    refine z_aload_n dX0_takeBack_20 rfl ?_
    refine y_getIe dX0_takeBack_21 lf_X0_20 rfl rfl ((u2_k (by decide)).trans hnx) ?_
    refine zn_if_le (tgt := 36) dX0_takeBack_24 (by decide) (by omega) (fun hc24 => ?_) (fun hc24 => ?_)
    · have hpv : prv nx = 13 := by simp [prv, hc24]
      refine z_bipush (v := nI 13) dX0_takeBack_36 rfl ?_
      rw [← hpv]
      refine y_putI dX0_takeBack_38 lp_X0_20 rfl rfl ?_
      refine z_aload_n dX0_takeBack_41 rfl ?_
      refine z_aload_n dX0_takeBack_42 rfl ?_
      refine y_getR dX0_takeBack_43 lf_X0_11 rfl rfl ?_
      refine z_aload_n dX0_takeBack_46 rfl ?_
      refine y_getIe dX0_takeBack_47 lf_X0_20 rfl rfl u2_s ?_
      refine y_aald dX0_takeBack_50 rfl (by decide) (prv_lt hx) (act_r _ (prv_lt hx)) (by have := prv_lt hx; omega) ?_
      refine y_callV1x (M' := M_X4_become) dX0_takeBack_51 lm_X0_24 cv_X4_become ha.1 (Nat.le_of_ble_eq_true rfl) (Nat.le_of_ble_eq_true rfl) rfl (c_become2 ha (sAt_act _ (prv_lt hx)) d) ?_
      refine z_iconst (v := nI 1) dX0_takeBack_54 rfl ?_
      exact y_zreturn dX0_takeBack_55 rfl (by first | exact Or.inl rfl | exact Or.inr rfl | assumption) ⟨by rw [b2i_t]; simp [hc4], by rw [tbM, if_neg hc4], rfl⟩
    · have hpv : prv nx = nx - 1 := by simp [prv, hc24]
      refine z_aload_n dX0_takeBack_27 rfl ?_
      refine y_getIe dX0_takeBack_28 lf_X0_20 rfl rfl ((u2_k (by decide)).trans hnx) ?_
      refine z_iconst (v := nI 1) dX0_takeBack_31 rfl ?_
      refine zn_isub dX0_takeBack_32 (by omega) ?_
      rw [← hpv]
      refine z_goto (tgt := 38) dX0_takeBack_33 (by decide) ?_
      refine y_putI dX0_takeBack_38 lp_X0_20 rfl rfl ?_
      refine z_aload_n dX0_takeBack_41 rfl ?_
      refine z_aload_n dX0_takeBack_42 rfl ?_
      refine y_getR dX0_takeBack_43 lf_X0_11 rfl rfl ?_
      refine z_aload_n dX0_takeBack_46 rfl ?_
      refine y_getIe dX0_takeBack_47 lf_X0_20 rfl rfl u2_s ?_
      refine y_aald dX0_takeBack_50 rfl (by decide) (prv_lt hx) (act_r _ (prv_lt hx)) (by have := prv_lt hx; omega) ?_
      refine y_callV1x (M' := M_X4_become) dX0_takeBack_51 lm_X0_24 cv_X4_become ha.1 (Nat.le_of_ble_eq_true rfl) (Nat.le_of_ble_eq_true rfl) rfl (c_become2 ha (sAt_act _ (prv_lt hx)) d) ?_
      refine z_iconst (v := nI 1) dX0_takeBack_54 rfl ?_
      exact y_zreturn dX0_takeBack_55 rfl (by first | exact Or.inl rfl | exact Or.inr rfl | assumption) ⟨by rw [b2i_t]; simp [hc4], by rw [tbM, if_neg hc4], rfl⟩
  · refine z_iconst (v := nI 0) dX0_takeBack_7 rfl ?_
    exact y_zreturn dX0_takeBack_8 rfl (by first | exact Or.inl rfl | exact Or.inr rfl | assumption) ⟨by rw [b2i_f]; simp [hc4], by rw [tbM, if_pos hc4], rfl⟩
set_option maxRecDepth 4000 in
theorem c_forgetAll {X : zX} {mu : zmu} {nu : znu} (d : Nat) : zJ X M_X0_forgetAll d 0 0 0 [.ref 14] [] 86 (zEE (mu) nu) (zlift (zex none (u2 mu 14 2 (nI 0)) nu)) := by
  refine z_aload_n dX0_forgetAll_0 rfl ?_
  refine z_iconst (v := nI 0) dX0_forgetAll_1 rfl ?_
  refine y_putI dX0_forgetAll_2 lp_X0_28 rfl rfl ?_
  exact y_return dX0_forgetAll_5 rfl ⟨rfl, rfl, rfl⟩
def patOf (T : Nat → Nat) (len : Nat) : PT := (T 1 - 48, T 2 - 48, T 3 - 48, (len - 4 - tn T) / 3, fun c => (knd (T (4 + c))).getD 0, fun b => T (4 + tn T + b * 3 + 1) - 97, fun b => T (4 + tn T + b * 3 + 2) - 48)
theorem fit_kind {T : Nat → Nat} {c : Nat} (h : fitc T (4 + c) = true) (hc : c < tn T) : ∃ q, knd (T (4 + c)) = some q ∧ q ≤ 3 := by
  unfold fitc at h
  rw [if_neg (by omega), if_neg (by omega), if_neg (by omega), if_neg (by omega), if_pos (by omega)] at h
  obtain ⟨q, hq⟩ := Option.isSome_iff_exists.mp h
  exact ⟨q, hq, knd_lt hq⟩
theorem fit_boy {T : Nat → Nat} {i : Nat} (h : fitc T (4 + tn T + i) = true) : i < 15 ∧ fib T (i % 3) (T (4 + tn T + i)) = true := by
  unfold fitc at h
  rw [if_neg (by omega), if_neg (by omega), if_neg (by omega), if_neg (by omega), if_neg (by omega)] at h
  simp only [Bool.and_eq_true, decide_eq_true_eq] at h
  rw [show 4 + tn T + i - 4 - tn T = i by omega] at h
  exact h
/-- the text is a paper -/
def Pap (T : Nat → Nat) (len : Nat) : Prop := (∀ j, j < len → fitc T j = true) ∧ whl T len = true
theorem Pap.len {T : Nat → Nat} {len : Nat} (h : Pap T len) : Tok T ∧ 4 + tn T ≤ len ∧ len = 4 + tn T + (len - 4 - tn T) / 3 * 3 ∧ (len - 4 - tn T) / 3 ≤ 5 := by
  obtain ⟨h1, h2⟩ := h
  simp only [whl, Bool.and_eq_true, decide_eq_true_eq] at h2
  have hk := Tok_of h1 h2.1
  have h5 : len - 4 - tn T ≤ 15 := by
    rcases Nat.lt_or_ge 15 (len - 4 - tn T) with g | g
    · have := (fit_boy (i := 15) (h1 (4 + tn T + 15) (by omega))).1
      omega
    · exact g
  exact ⟨hk, h2.2.1, by omega, by omega⟩
theorem Pap.boy {T : Nat → Nat} {len b : Nat} (h : Pap T len) (hb : b < (len - 4 - tn T) / 3) : 97 ≤ T (4 + tn T + b * 3 + 1) ∧ T (4 + tn T + b * 3 + 1) - 97 < tn T ∧ T (4 + (T (4 + tn T + b * 3 + 1) - 97)) ≠ 116 ∧ 48 ≤ T (4 + tn T + b * 3 + 2) ∧ T (4 + tn T + b * 3 + 2) ≤ 51 := by
  obtain ⟨hk, hl, he, h5⟩ := h.len
  have f1 := (fit_boy (i := b * 3 + 1) (h.1 (4 + tn T + (b * 3 + 1)) (by omega))).2
  have f2 := (fit_boy (i := b * 3 + 2) (h.1 (4 + tn T + (b * 3 + 2)) (by omega))).2
  rw [show (b * 3 + 1) % 3 = 1 by omega, ← Nat.add_assoc] at f1
  rw [show (b * 3 + 2) % 3 = 2 by omega, ← Nat.add_assoc] at f2
  simp [fib, fre] at f1 f2
  exact ⟨f1.1, f1.2.1, f1.2.2, f2.1, f2.2⟩
theorem patOf_V {T : Nat → Nat} {len : Nat} (h : Pap T len) : PV (patOf T len) := by
  obtain ⟨hk, hl, he, h5⟩ := h.len
  obtain ⟨k1, k2, k3, k4⟩ := hk
  have h2 := h.2
  simp only [whl, Bool.and_eq_true, decide_eq_true_eq] at h2
  have f3 := h.1 3 (by omega)
  simp [fitc] at f3
  refine ⟨by show 2 ≤ T 1 - 48; omega, by show T 1 - 48 ≤ 5; omega, by show 2 ≤ T 2 - 48; omega, by show T 2 - 48 ≤ 4; omega, by show T 3 - 48 < T 2 - 48; omega, h5, fun c hc => ?_, fun b hb => ?_⟩
  · obtain ⟨q, hq, hq3⟩ := fit_kind (h.1 (4 + c) (by have : c < tn T := hc; omega)) hc
    show (knd (T (4 + c))).getD 0 ≤ 3
    rw [hq]; exact hq3
  · obtain ⟨b1, b2, b3, b4, b5⟩ := h.boy hb
    exact ⟨b2, by show T (4 + tn T + b * 3 + 2) - 48 ≤ 3; omega⟩
def rd1 (T : Nat → Nat) (len : Nat) (mu : zmu) : zmu := layK (T 1 - 48) (T 2 - 48) (T 3 - 48) ((T 2 - 48) * (T 1 - 48)) (u2 (u2 (u2 (u2 (u2 mu 3 0 (nI (T 1 - 48))) 3 1 (nI (T 2 - 48))) 3 2 (nI (T 3 - 48))) 3 4 (nI ((len - 4 - tn T) / 3))) 3 3 (nI ((T 1 - 48) * (T 2 - 48))))
def rdK (T : Nat → Nat) (c : Nat) : Int32 := nI ((knd (T (4 + c))).getD 0)
def rdH (T : Nat → Nat) (b : Nat) : Int32 := nI (T (4 + tn T + b * 3 + 1) - 97)
def rdX (T : Nat → Nat) (b : Nat) : Int32 := nI (T (4 + tn T + b * 3 + 2) - 48)
def rd2 (T : Nat → Nat) (i : Nat) (mu : zmu) : zmu := uR mu 4 (fil (rdK T) (mu 4) i)
def rd3 (T : Nat → Nat) (i : Nat) (mu : zmu) : zmu := uR (uR mu 5 (fil (rdH T) (mu 5) i)) 6 (fil (rdX T) (mu 6) i)
theorem rd1_3 {T : Nat → Nat} {len : Nat} {mu : zmu} : rd1 T len mu 3 3 = nI (tn T) ∧ rd1 T len mu 3 4 = nI ((len - 4 - tn T) / 3) := by
  unfold rd1; rw [layK_3, layK_3]; exact ⟨rfl, rfl⟩
theorem TFc_eq {T : Nat → Nat} {len : Nat} {mu mu' : zmu} (h : TFc T len mu) (e1 : mu' 1 = mu 1) (e2 : mu' 2 = mu 2) : TFc T len mu' := by unfold TFc at *; rw [e1, e2]; exact h
theorem TFc_u2 {T : Nat → Nat} {len a k : Nat} {v : Int32} {mu : zmu} (h : TFc T len mu) (h1 : 1 ≠ a) (h2 : 2 ≠ a) : TFc T len (u2 mu a k v) := TFc_eq h (u2_rowa h1) (u2_rowa h2)
theorem layK_o {w h dd k a : Nat} {mu : zmu} (h7 : a ≠ 7) (h8 : a ≠ 8) (h9 : a ≠ 9) : layK w h dd k mu a = mu a := by funext j; simp [layK, h7, h8, h9]
theorem rd1_o {T : Nat → Nat} {len a : Nat} {mu : zmu} (h3 : a ≠ 3) (h7 : a ≠ 7) (h8 : a ≠ 8) (h9 : a ≠ 9) : rd1 T len mu a = mu a := by
  unfold rd1; rw [layK_o h7 h8 h9, u2_rowa h3, u2_rowa h3, u2_rowa h3, u2_rowa h3, u2_rowa h3]
theorem rd2_o {T : Nat → Nat} {i a : Nat} {mu : zmu} (h4 : a ≠ 4) : rd2 T i mu a = mu a := by unfold rd2; rw [uR_a h4]
theorem rd3_o {T : Nat → Nat} {i a : Nat} {mu : zmu} (h5 : a ≠ 5) (h6 : a ≠ 6) : rd3 T i mu a = mu a := by unfold rd3; rw [uR_a h6, uR_a h5]
theorem rd3_s {T : Nat → Nat} {i : Nat} {mu : zmu} : u2 (u2 (rd3 T i mu) 5 i (rdH T i)) 6 i (rdX T i) = rd3 T (i + 1) mu := by
  unfold rd3; rw [u2_uR (by decide), fil_s, fil_s]
set_option maxRecDepth 4000 in
theorem c_readFrom2 {X : zX} {mu : zmu} {nu : znu} {T : Nat → Nat} {len : Nat} (hp : Pap T len) (hT : TFc T len mu) (hn : mu 3 4 = nI ((len - 4 - tn T) / 3)) (d : Nat) : ∀ n i, i + n = (len - 4 - tn T) / 3 → zJ X M_X3_readFrom (d + 3) 0 0 72 [.ref 3, .ref 1, .int (nI i)] [] 86 (zEE (rd3 T i mu) nu) (zlift (zex none (rd3 T ((len - 4 - tn T) / 3) mu) nu)) := by
  intro n
  induction n with
  | zero =>
    intro i hi
    obtain ⟨hk, hl, he, h5⟩ := hp.len
    have hl48 := hT.2.1
    have h20 := tn_20 hk
    refine z_iload_n dX3_readFrom_72 rfl ?_
    refine z_aload_n dX3_readFrom_73 rfl ?_
    refine y_getIe dX3_readFrom_74 lf_X3_59 rfl rfl ((congrFun (rd3_o (by decide) (by decide)) 4).trans hn) ?_
    refine zn_icmp_ge (tgt := 108) dX3_readFrom_77 (by decide) (by omega) (by omega) (fun hc77 => ?_) (fun hc77 => by omega)
    exact y_return dX3_readFrom_108 rfl ⟨rfl, by rw [show i = (len - 4 - tn T) / 3 by omega], rfl⟩
  | succ n ih =>
    intro i hi
    obtain ⟨hk, hl, he, h5⟩ := hp.len
    have hl48 := hT.2.1
    have h20 := tn_20 hk
    obtain ⟨b1, b2, b3, b4, b5⟩ := hp.boy (b := i) (by omega)
    refine z_iload_n dX3_readFrom_72 rfl ?_
    refine z_aload_n dX3_readFrom_73 rfl ?_
    refine y_getIe dX3_readFrom_74 lf_X3_59 rfl rfl ((congrFun (rd3_o (by decide) (by decide)) 4).trans hn) ?_
    refine zn_icmp_ge (tgt := 108) dX3_readFrom_77 (by decide) (by omega) (by omega) (fun hc77 => by omega) (fun hc77 => ?_)
    refine z_aload_n dX3_readFrom_80 rfl ?_
    refine y_getR dX3_readFrom_81 lf_X3_22 rfl rfl ?_
    refine z_iload_n dX3_readFrom_84 rfl ?_
    refine z_aload_n dX3_readFrom_85 rfl ?_
    refine z_iload_n dX3_readFrom_86 rfl ?_
    refine y_callV1x (M' := M_X7_homeOfBoy) dX3_readFrom_87 lm_X3_67 cv_X7_homeOfBoy rfl (Nat.le_of_ble_eq_true rfl) (Nat.le_of_ble_eq_true rfl) rfl (c_homeOfBoy (TFc_eq hT (rd3_o (by decide) (by decide)) (rd3_o (by decide) (by decide))) hk (by omega) b1 d) ?_
    refine y_iast dX3_readFrom_90 rfl (by decide) (by omega) ?_
    refine z_aload_n dX3_readFrom_91 rfl ?_
    refine y_getR dX3_readFrom_92 lf_X3_25 rfl rfl ?_
    refine z_iload_n dX3_readFrom_95 rfl ?_
    refine z_aload_n dX3_readFrom_96 rfl ?_
    refine z_iload_n dX3_readFrom_97 rfl ?_
    refine y_callV1x (M' := M_X7_kindOfBoy) dX3_readFrom_98 lm_X3_70 cv_X7_kindOfBoy rfl (Nat.le_of_ble_eq_true rfl) (Nat.le_of_ble_eq_true rfl) rfl (c_kindOfBoy (TFc_eq hT (by rw [u2_rowa (by decide), rd3_o (by decide) (by decide)]) (by rw [u2_rowa (by decide), rd3_o (by decide) (by decide)])) hk (by omega) b4 d) ?_
    refine y_iast dX3_readFrom_101 rfl (by decide) (by omega) ?_
    refine zn_iinc2 dX3_readFrom_102 rfl ?_
    refine z_goto (tgt := 72) dX3_readFrom_105 (by decide) ?_
    have k := ih (i + 1) (by omega); rw [← rd3_s] at k; exact k
set_option maxRecDepth 4000 in
theorem c_readFrom1 {X : zX} {mu : zmu} {nu : znu} {T : Nat → Nat} {len : Nat} (hp : Pap T len) (hT : TFc T len mu) (hn : mu 3 4 = nI ((len - 4 - tn T) / 3)) (hc : mu 3 3 = nI (tn T)) (d : Nat) : ∀ n i, i + n = tn T → zJ X M_X3_readFrom (d + 3) 0 0 45 [.ref 3, .ref 1, .int (nI i)] [] 86 (zEE (rd2 T i mu) nu) (zlift (zex none (rd3 T ((len - 4 - tn T) / 3) (rd2 T (tn T) mu)) nu)) := by
  intro n
  induction n with
  | zero =>
    intro i hi
    obtain ⟨hk, hl, he, h5⟩ := hp.len
    have hl48 := hT.2.1
    have h20 := tn_20 hk
    refine z_iload_n dX3_readFrom_45 rfl ?_
    refine z_aload_n dX3_readFrom_46 rfl ?_
    refine y_getIe dX3_readFrom_47 lf_X3_61 rfl rfl ((congrFun (rd2_o (by decide)) 3).trans hc) ?_
    refine zn_icmp_ge (tgt := 70) dX3_readFrom_50 (by decide) (by omega) (by omega) (fun hc50 => ?_) (fun hc50 => by omega)
    refine z_iconst (v := nI 0) dX3_readFrom_70 rfl ?_
    refine z_istore2 dX3_readFrom_71 rfl ?_
    obtain rfl : i = tn T := (by omega); have k := c_readFrom2 (X := X) (nu := nu) hp (TFc_eq hT (rd2_o (T := T) (i := tn T) (by decide)) (rd2_o (by decide))) ((congrFun (rd2_o (by decide)) 4).trans hn) d ((len - 4 - tn T) / 3) 0 (by omega); rw [show rd3 T 0 (rd2 T (tn T) mu) = rd2 T (tn T) mu by unfold rd3; rw [fil_0, fil_0]] at k; exact k
  | succ n ih =>
    intro i hi
    obtain ⟨hk, hl, he, h5⟩ := hp.len
    have hl48 := hT.2.1
    have h20 := tn_20 hk
    obtain ⟨q, hq, hq3⟩ := fit_kind (hp.1 (4 + i) (by omega)) (by omega)
    have e0 : o9 (knd (T (4 + i))) = rdK T i := by unfold rdK; rw [hq]; rfl
    refine z_iload_n dX3_readFrom_45 rfl ?_
    refine z_aload_n dX3_readFrom_46 rfl ?_
    refine y_getIe dX3_readFrom_47 lf_X3_61 rfl rfl ((congrFun (rd2_o (by decide)) 3).trans hc) ?_
    refine zn_icmp_ge (tgt := 70) dX3_readFrom_50 (by decide) (by omega) (by omega) (fun hc50 => by omega) (fun hc50 => ?_)
    refine z_aload_n dX3_readFrom_53 rfl ?_
    refine y_getR dX3_readFrom_54 lf_X3_18 rfl rfl ?_
    refine z_iload_n dX3_readFrom_57 rfl ?_
    refine z_aload_n dX3_readFrom_58 rfl ?_
    refine z_iload_n dX3_readFrom_59 rfl ?_
    refine y_callV1x (M' := M_X7_kindOfCell) dX3_readFrom_60 lm_X3_64 cv_X7_kindOfCell rfl (Nat.le_of_ble_eq_true rfl) (Nat.le_of_ble_eq_true rfl) rfl (c_kindOfCell (TFc_eq hT (rd2_o (by decide)) (rd2_o (by decide))) (c := i) (by omega) (d + 1)) ?_
    rw [e0]
    refine y_iast dX3_readFrom_63 rfl (by decide) (by omega) ?_
    rw [show u2 (rd2 T i mu) 4 i (rdK T i) = rd2 T (i + 1) mu by unfold rd2; rw [fil_s]]
    refine zn_iinc2 dX3_readFrom_64 rfl ?_
    refine z_goto (tgt := 45) dX3_readFrom_67 (by decide) ?_
    exact ih (i + 1) (by omega)
def rdM (T : Nat → Nat) (len : Nat) (mu : zmu) : zmu := rd3 T ((len - 4 - tn T) / 3) (rd2 T (tn T) (rd1 T len mu))
set_option maxRecDepth 4000 in
theorem c_readFrom {X : zX} {mu : zmu} {nu : znu} {T : Nat → Nat} {len : Nat} (hp : Pap T len) (hT : TFc T len mu) (d : Nat) : zJ X M_X3_readFrom (d + 3) 0 0 0 [.ref 3, .ref 1, zu] [] 86 (zEE (mu) nu) (zlift (zex none (rdM T len mu) nu)) := by
  obtain ⟨hk, hl, he, h5⟩ := hp.len
  have hl48 := hT.2.1
  have hV := patOf_V hp
  obtain ⟨k1, k2, k3, k4⟩ := id hk
  have h2 := hp.2
  simp only [whl, Bool.and_eq_true, decide_eq_true_eq] at h2
  have f3 := hp.1 3 (by omega)
  simp [fitc] at f3
  refine z_aload_n dX3_readFrom_0 rfl ?_
  refine z_aload_n dX3_readFrom_1 rfl ?_
  refine z_iconst (v := nI 1) dX3_readFrom_2 rfl ?_
  refine y_callV1x (M' := M_X7_figure) dX3_readFrom_3 lm_X3_40 cv_X7_figure rfl (Nat.le_of_ble_eq_true rfl) (Nat.le_of_ble_eq_true rfl) rfl (c_figure hT (i := 1) (by decide) (by omega) (d + 2)) ?_
  refine y_putI dX3_readFrom_6 lp_X3_9 rfl rfl ?_
  refine z_aload_n dX3_readFrom_9 rfl ?_
  refine z_aload_n dX3_readFrom_10 rfl ?_
  refine z_iconst (v := nI 2) dX3_readFrom_11 rfl ?_
  refine y_callV1x (M' := M_X7_figure) dX3_readFrom_12 lm_X3_40 cv_X7_figure rfl (Nat.le_of_ble_eq_true rfl) (Nat.le_of_ble_eq_true rfl) rfl (c_figure (TFc_u2 hT (by decide) (by decide)) (i := 2) (by decide) (by omega) (d + 2)) ?_
  refine y_putI dX3_readFrom_15 lp_X3_15 rfl rfl ?_
  refine z_aload_n dX3_readFrom_18 rfl ?_
  refine z_aload_n dX3_readFrom_19 rfl ?_
  refine z_iconst (v := nI 3) dX3_readFrom_20 rfl ?_
  refine y_callV1x (M' := M_X7_figure) dX3_readFrom_21 lm_X3_40 cv_X7_figure rfl (Nat.le_of_ble_eq_true rfl) (Nat.le_of_ble_eq_true rfl) rfl (c_figure (TFc_u2 (TFc_u2 hT (by decide) (by decide)) (by decide) (by decide)) (i := 3) (by decide) (by omega) (d + 2)) ?_
  refine y_putI dX3_readFrom_24 lp_X3_46 rfl rfl ?_
  refine z_aload_n dX3_readFrom_27 rfl ?_
  refine z_aload_n dX3_readFrom_28 rfl ?_
  refine y_callV0x (M' := M_X7_boys) dX3_readFrom_29 lm_X3_49 cv_X7_boys rfl (Nat.le_of_ble_eq_true rfl) (Nat.le_of_ble_eq_true rfl) rfl (c_boys (TFc_u2 (TFc_u2 (TFc_u2 hT (by decide) (by decide)) (by decide) (by decide)) (by decide) (by decide)) hk hl d) ?_
  refine z_iconst (v := nI 5) dX3_readFrom_32 rfl ?_
  refine z_min dX3_readFrom_33 lm_X3_53 st_J9_min_7cf53 ini_RJ9 co_J9_min_7cf53 (Nat.le_of_ble_eq_true rfl) (by omega) ?_
  rw [imin (by omega) (by omega), Nat.min_eq_left h5]
  refine y_putI dX3_readFrom_36 lp_X3_59 rfl rfl ?_
  refine z_aload_n dX3_readFrom_39 rfl ?_
  refine y_callV0x (M' := M_X3_layOut) dX3_readFrom_40 lm_X3_37 cv_X3_layOut rfl (Nat.le_of_ble_eq_true rfl) (Nat.le_of_ble_eq_true rfl) rfl (g_layOut (sh := zk) (n := 86) shP_k (w := T 1 - 48) (h := T 2 - 48) (dd := T 3 - 48) (by omega) (by omega) (by omega) (by omega) (by omega) rfl rfl rfl d) ?_
  rw [show layK (T 1 - 48) (T 2 - 48) (T 3 - 48) ((T 2 - 48) * (T 1 - 48)) (u2 (u2 (u2 (u2 (u2 mu 3 0 (nI (T 1 - 48))) 3 1 (nI (T 2 - 48))) 3 2 (nI (T 3 - 48))) 3 4 (nI ((len - 4 - tn T) / 3))) 3 3 (nI ((T 1 - 48) * (T 2 - 48)))) = rd1 T len mu from rfl]
  refine z_iconst (v := nI 0) dX3_readFrom_43 rfl ?_
  refine z_istore2 dX3_readFrom_44 rfl ?_
  have k := c_readFrom1 (X := X) (nu := nu) (mu := rd1 T len mu) hp (TFc_eq hT (rd1_o (by decide) (by decide) (by decide) (by decide)) (rd1_o (by decide) (by decide) (by decide) (by decide))) rd1_3.2 rd1_3.1 d (tn T) 0 (by omega); rw [show rd2 T 0 (rd1 T len mu) = rd1 T len mu by unfold rd2; rw [fil_0]] at k; exact k
theorem rdM_P {T : Nat → Nat} {len : Nat} {mu : zmu} (hp : Pap T len) : PFc (patOf T len) (rdM T len mu) := by
  obtain ⟨hk, hl, he, h5⟩ := hp.len
  have h20 := tn_20 hk
  have e3 : ∀ j, rdM T len mu 3 j = rd1 T len mu 3 j := fun j => by unfold rdM; rw [rd3_o (by decide) (by decide), rd2_o (by decide)]
  have e7 : ∀ a, 7 ≤ a → rdM T len mu a = rd1 T len mu a := fun a ha => by unfold rdM; rw [rd3_o (by omega) (by omega), rd2_o (by omega)]
  have r3 : ∀ j, rd1 T len mu 3 j = u2 (u2 (u2 (u2 (u2 mu 3 0 (nI (T 1 - 48))) 3 1 (nI (T 2 - 48))) 3 2 (nI (T 3 - 48))) 3 4 (nI ((len - 4 - tn T) / 3))) 3 3 (nI ((T 1 - 48) * (T 2 - 48))) 3 j := fun j => by unfold rd1; exact layK_3
  refine ⟨(e3 0).trans (r3 0), (e3 1).trans (r3 1), (e3 2).trans (r3 2), (e3 3).trans (r3 3), (e3 4).trans (r3 4), fun c hc => ?_, fun b hb => ?_, fun c y hc hy => ?_⟩
  · have hc : c < tn T := hc
    unfold rdM; rw [rd3_o (by decide) (by decide)]; unfold rd2; rw [uR_s, fil_lt hc]; rfl
  · have hb : b < (len - 4 - tn T) / 3 := hb
    unfold rdM rd3
    rw [uR_a (by decide), uR_s, uR_s, fil_lt hb, fil_lt hb]; exact ⟨rfl, rfl⟩
  · have hc : c < (T 1 - 48) * (T 2 - 48) := hc
    have hc2 : c * 4 + y < (T 2 - 48) * (T 1 - 48) * 4 := by rw [Nat.mul_comm (T 2 - 48)]; omega
    rw [e7 7 (by decide), e7 8 (by decide), e7 9 (by decide)]
    unfold rd1 layK
    simp [hc2, show (c * 4 + y) / 4 = c by omega, show (c * 4 + y) % 4 = y by omega]
    exact ⟨rfl, rfl, rfl⟩
