/-- a number of steps with its side -/
def sI (z : Bool × Nat) : Int32 := if z.1 = true then 0 - nI z.2 else nI z.2
def sV (z : Bool × Nat) : Prop := z.2 ≤ 4 ∧ (z.1 = true → 0 < z.2)
theorem sI_try : tryN 5 (fun k => (if 0 ≤ sI (false, k) then sI (false, k) else 0 - sI (false, k)) == nI k && decide (0 ≤ sI (false, k)) && ((k == 0) || ((if 0 ≤ sI (true, k) then sI (true, k) else 0 - sI (true, k)) == nI k && decide (¬ 0 ≤ sI (true, k)) && decide (sI (true, k) < 0)))) = true := by decide +kernel
theorem sI_abs {z : Bool × Nat} (h : sV z) : (if 0 ≤ sI z then sI z else 0 - sI z) = nI z.2 ∧ (z.1 = false → 0 ≤ sI z) ∧ (z.1 = true → ¬ 0 ≤ sI z) ∧ (z.1 = true → sI z < 0) := by
  obtain ⟨b, k⟩ := z
  have hk : k ≤ 4 := h.1
  have t := tryN_at sI_try (i := k) (by omega)
  simp only [Bool.and_eq_true, Bool.or_eq_true, decide_eq_true_eq, beq_iff_eq] at t
  cases b
  · exact ⟨t.1.1, fun _ => t.1.2, fun e => (by cases e), fun e => (by cases e)⟩
  · have h0 : 0 < k := h.2 rfl
    rcases t.2 with e | e
    · omega
    · exact ⟨e.1.1, fun e => (by cases e), fun _ => e.1.2, fun _ => e.2⟩
def wlk (w h dd y c : Nat) : Nat → Nat
  | 0 => c
  | k + 1 => nbc w h dd (wlk w h dd y c k) y
theorem wlk_lt {p : PT} (hp : PV p) {c y : Nat} (hc : c < pw p * ph p) (hy : y < 4) : ∀ k, wlk (pw p) (ph p) (pd p) y c k < pw p * ph p
  | 0 => hc
  | k + 1 => nbc_lt hp hp.2.2.2.2.1 (wlk_lt hp hc hy k) hy
set_option maxRecDepth 4000 in
theorem c_cellOff_lP {X : zX} {mu : zmu} {nu : znu} {p : PT} {c k on bk : Nat} (hp : PV p) (hP : PFc p mu) (hc : c < pw p * ph p) (hz : sV (false, k)) (hon : on < 4) (hbk : bk < 4) (d : Nat) : ∀ n i, i + n = k → zJ X M_X6_cellOff (d + 1) 0 0 12 [.ref 3, .int (nI c), .int (sI (false, k)), .int (nI on), .int (nI bk), .int (nI (wlk (pw p) (ph p) (pd p) on c i)), .int (nI k), .int (nI i)] [] 86 (zEE (mu) nu) (zlift (zex (some (.int (nI (wlk (pw p) (ph p) (pd p) on c k)))) (mu) nu)) := by
  intro n
  induction n with
  | zero =>
    intro i hi
    have h4 : k ≤ 4 := hz.1
    refine z_iload dX6_cellOff_12 rfl ?_
    refine z_iload dX6_cellOff_14 rfl ?_
    refine zn_icmp_ge (tgt := 50) dX6_cellOff_16 (by decide) (by omega) (by omega) (fun hc16 => ?_) (fun hc16 => by omega)
    refine z_iload dX6_cellOff_50 rfl ?_
    exact y_ireturn dX6_cellOff_52 rfl ⟨by rw [show i = k by omega], rfl, rfl⟩
  | succ n ih =>
    intro i hi
    have h4 : k ≤ 4 := hz.1
    refine z_iload dX6_cellOff_12 rfl ?_
    refine z_iload dX6_cellOff_14 rfl ?_
    refine zn_icmp_ge (tgt := 50) dX6_cellOff_16 (by decide) (by omega) (by omega) (fun hc16 => by omega) (fun hc16 => ?_)
    refine z_iload dX6_cellOff_19 rfl ?_
    refine z_iconst (v := nI 4) dX6_cellOff_21 rfl ?_
    refine zn_icmp_ge (tgt := 50) dX6_cellOff_22 (by decide) (by omega) (by omega) (fun hc22 => by omega) (fun hc22 => ?_)
    refine z_aload_n dX6_cellOff_25 rfl ?_
    refine z_iload dX6_cellOff_26 rfl ?_
    refine z_iload_n dX6_cellOff_28 rfl ?_
    refine z_if_ge (tgt := 37) dX6_cellOff_29 (by decide) (fun hc29 => ?_) (fun hc29 => by exact absurd ((sI_abs hz).2.1 rfl) hc29)
    refine z_iload_n dX6_cellOff_37 rfl ?_
    refine z_iconst (v := nI 0) dX6_cellOff_38 rfl ?_
    refine y_callV3x (M' := M_X3_cellBeside) dX6_cellOff_39 lm_X6_44 cv_X3_cellBeside rfl (Nat.le_of_ble_eq_true rfl) (Nat.le_of_ble_eq_true rfl) rfl (c_cellBeside hp hP (wlk_lt hp hc hon i) hon false d) ?_
    refine z_istore5 dX6_cellOff_42 rfl ?_
    refine zn_iinc7 dX6_cellOff_44 rfl ?_
    refine z_goto (tgt := 12) dX6_cellOff_47 (by decide) ?_
    exact ih (i + 1) (by omega)
set_option maxRecDepth 4000 in
theorem c_cellOff_lN {X : zX} {mu : zmu} {nu : znu} {p : PT} {c k on bk : Nat} (hp : PV p) (hP : PFc p mu) (hc : c < pw p * ph p) (hz : sV (true, k)) (hon : on < 4) (hbk : bk < 4) (d : Nat) : ∀ n i, i + n = k → zJ X M_X6_cellOff (d + 1) 0 0 12 [.ref 3, .int (nI c), .int (sI (true, k)), .int (nI on), .int (nI bk), .int (nI (wlk (pw p) (ph p) (pd p) bk c i)), .int (nI k), .int (nI i)] [] 86 (zEE (mu) nu) (zlift (zex (some (.int (nI (wlk (pw p) (ph p) (pd p) bk c k)))) (mu) nu)) := by
  intro n
  induction n with
  | zero =>
    intro i hi
    have h4 : k ≤ 4 := hz.1
    refine z_iload dX6_cellOff_12 rfl ?_
    refine z_iload dX6_cellOff_14 rfl ?_
    refine zn_icmp_ge (tgt := 50) dX6_cellOff_16 (by decide) (by omega) (by omega) (fun hc16 => ?_) (fun hc16 => by omega)
    refine z_iload dX6_cellOff_50 rfl ?_
    exact y_ireturn dX6_cellOff_52 rfl ⟨by rw [show i = k by omega], rfl, rfl⟩
  | succ n ih =>
    intro i hi
    have h4 : k ≤ 4 := hz.1
    refine z_iload dX6_cellOff_12 rfl ?_
    refine z_iload dX6_cellOff_14 rfl ?_
    refine zn_icmp_ge (tgt := 50) dX6_cellOff_16 (by decide) (by omega) (by omega) (fun hc16 => by omega) (fun hc16 => ?_)
    refine z_iload dX6_cellOff_19 rfl ?_
    refine z_iconst (v := nI 4) dX6_cellOff_21 rfl ?_
    refine zn_icmp_ge (tgt := 50) dX6_cellOff_22 (by decide) (by omega) (by omega) (fun hc22 => by omega) (fun hc22 => ?_)
    refine z_aload_n dX6_cellOff_25 rfl ?_
    refine z_iload dX6_cellOff_26 rfl ?_
    refine z_iload_n dX6_cellOff_28 rfl ?_
    refine z_if_ge (tgt := 37) dX6_cellOff_29 (by decide) (fun hc29 => by exact absurd hc29 ((sI_abs hz).2.2.1 rfl)) (fun hc29 => ?_)
    refine z_iload dX6_cellOff_32 rfl ?_
    refine z_goto (tgt := 38) dX6_cellOff_34 (by decide) ?_
    refine z_iconst (v := nI 0) dX6_cellOff_38 rfl ?_
    refine y_callV3x (M' := M_X3_cellBeside) dX6_cellOff_39 lm_X6_44 cv_X3_cellBeside rfl (Nat.le_of_ble_eq_true rfl) (Nat.le_of_ble_eq_true rfl) rfl (c_cellBeside hp hP (wlk_lt hp hc hbk i) hbk false d) ?_
    refine z_istore5 dX6_cellOff_42 rfl ?_
    refine zn_iinc7 dX6_cellOff_44 rfl ?_
    refine z_goto (tgt := 12) dX6_cellOff_47 (by decide) ?_
    exact ih (i + 1) (by omega)
set_option maxRecDepth 4000 in
theorem c_cellOff {X : zX} {mu : zmu} {nu : znu} {p : PT} {c on bk : Nat} {z : Bool × Nat} (hp : PV p) (hP : PFc p mu) (hc : c < pw p * ph p) (hz : sV z) (hon : on < 4) (hbk : bk < 4) (d : Nat) : zJ X M_X6_cellOff (d + 1) 0 0 0 [.ref 3, .int (nI c), .int (sI z), .int (nI on), .int (nI bk), zu, zu, zu] [] 86 (zEE (mu) nu) (zlift (zex (some (.int (nI (wlk (pw p) (ph p) (pd p) (if z.1 = true then bk else on) c z.2)))) (mu) nu)) := by
  have ha := (sI_abs hz).1
  refine z_iload_n dX6_cellOff_0 rfl ?_
  refine z_istore5 dX6_cellOff_1 rfl ?_
  refine z_iload_n dX6_cellOff_3 rfl ?_
  refine z_abs dX6_cellOff_4 lm_X6_39 st_J9_abs_0f7a4 ini_RJ9 co_J9_abs_0f7a4 (Nat.le_of_ble_eq_true rfl) (by omega) ?_
  rw [ha]
  refine z_istore6 dX6_cellOff_7 rfl ?_
  refine z_iconst (v := nI 0) dX6_cellOff_9 rfl ?_
  refine z_istore7 dX6_cellOff_10 rfl ?_
  obtain ⟨b, k⟩ := z
  cases b
  · exact c_cellOff_lP hp hP hc hz hon hbk d k 0 (by omega)
  · exact c_cellOff_lN hp hP hc hz hon hbk d k 0 (by omega)
def SEc (Sx Sy : Nat → Bool × Nat) (Sk : Nat → Nat) (cnt : Nat) (mu : zmu) : Prop := mu 52 3 = nI cnt ∧ ∀ i, i < cnt → mu 53 i = sI (Sx i) ∧ mu 54 i = sI (Sy i) ∧ mu 55 i = nI (Sk i)
def SEV (Sx Sy : Nat → Bool × Nat) (Sk : Nat → Nat) (cnt : Nat) : Prop := cnt ≤ 6 ∧ ∀ i, i < cnt → sV (Sx i) ∧ sV (Sy i) ∧ Sk i ≤ 3
/-- the cell that is x on and y down -/
def offc (p : PT) (x y : Bool × Nat) (c : Nat) : Nat := wlk (pw p) (ph p) (pd p) (if y.1 = true then 2 else 3) (wlk (pw p) (ph p) (pd p) (if x.1 = true then 0 else 1) c x.2) y.2
def sof (p : PT) (cut : Nat) (Sx Sy : Nat → Bool × Nat) (Sk : Nat → Nat) (cnt c : Nat) : Bool := (List.range cnt).all (fun i => kdk (pK p) cut (offc p (Sx i) (Sy i) c) == Sk i)
theorem offc_lt {p : PT} (hp : PV p) {x y : Bool × Nat} {c : Nat} (hc : c < pw p * ph p) : offc p x y c < pw p * ph p := wlk_lt hp (wlk_lt hp hc (by split <;> decide) _) (by split <;> decide) _
theorem sof_t {p : PT} {cut : Nat} {Sx Sy : Nat → Bool × Nat} {Sk : Nat → Nat} {cnt c : Nat} (h : ∀ i, i < cnt → kdk (pK p) cut (offc p (Sx i) (Sy i) c) = Sk i) : sof p cut Sx Sy Sk cnt c = true := List.all_eq_true.mpr (fun i hi => by simpa using h i (List.mem_range.mp hi))
theorem sof_f {p : PT} {cut : Nat} {Sx Sy : Nat → Bool × Nat} {Sk : Nat → Nat} {cnt c i : Nat} (hi : i < cnt) (h : ¬ kdk (pK p) cut (offc p (Sx i) (Sy i) c) = Sk i) : sof p cut Sx Sy Sk cnt c = false := by
  rw [sof, List.all_eq_false]; exact ⟨i, List.mem_range.mpr hi, by simpa using h⟩
set_option maxRecDepth 4000 in
theorem c_isSoFrom_l {X : zX} {mu : zmu} {nu : znu} {p : PT} {cut c cnt : Nat} {Sx Sy : Nat → Bool × Nat} {Sk : Nat → Nat} (hp : PV p) (hP : PFc p mu) (hcut : mu 10 2 = nI cut) (hcl : cut < 2 ^ 20) (hE : SEc Sx Sy Sk cnt mu) (hv : SEV Sx Sy Sk cnt) (hc : c < pw p * ph p) (d : Nat) : ∀ n i, i + n = cnt → (∀ j, j < i → kdk (pK p) cut (offc p (Sx j) (Sy j) c) = Sk j) → zJ X M_X6_isSoFrom (d + 2) 0 0 2 [.ref 52, .ref 10, .int (nI c), .int (nI i), zu, zu] [] 86 (zEE (mu) nu) (zlift (zex (some (.int (b2i (sof p cut Sx Sy Sk cnt c)))) (mu) nu)) := by
  intro n
  induction n with
  | zero =>
    intro i hi
    have h6 := hv.1
    intro hno
    refine z_iload_n dX6_isSoFrom_2 rfl ?_
    refine z_aload_n dX6_isSoFrom_3 rfl ?_
    refine y_getIe dX6_isSoFrom_4 lf_X6_21 rfl rfl hE.1 ?_
    refine zn_icmp_ge (tgt := 76) dX6_isSoFrom_7 (by decide) (by omega) (by omega) (fun hc7 => ?_) (fun hc7 => by omega)
    refine z_iconst (v := nI 1) dX6_isSoFrom_76 rfl ?_
    exact y_zreturn dX6_isSoFrom_77 rfl (by first | exact Or.inl rfl | exact Or.inr rfl | assumption) ⟨by rw [b2i_t (sof_t (fun j hj => hno j (by omega)))], rfl, rfl⟩
  | succ n ih =>
    intro i hi
    have h6 := hv.1
    intro hno
    obtain ⟨e1, e2, e3⟩ := hE.2 i (by omega)
    obtain ⟨v1, v2, v3⟩ := hv.2 i (by omega)
    have ho := offc_lt hp (x := Sx i) (y := Sy i) hc
    have hk3 := kdk_le hp (cut := cut) ho
    refine z_iload_n dX6_isSoFrom_2 rfl ?_
    refine z_aload_n dX6_isSoFrom_3 rfl ?_
    refine y_getIe dX6_isSoFrom_4 lf_X6_21 rfl rfl hE.1 ?_
    refine zn_icmp_ge (tgt := 76) dX6_isSoFrom_7 (by decide) (by omega) (by omega) (fun hc7 => by omega) (fun hc7 => ?_)
    refine z_iload_n dX6_isSoFrom_10 rfl ?_
    refine z_bipush (v := nI 6) dX6_isSoFrom_11 rfl ?_
    refine zn_icmp_ge (tgt := 76) dX6_isSoFrom_13 (by decide) (by omega) (by omega) (fun hc13 => by omega) (fun hc13 => ?_)
    refine z_aload_n dX6_isSoFrom_16 rfl ?_
    refine y_getR dX6_isSoFrom_17 lf_X6_25 rfl rfl ?_
    refine z_iload_n dX6_isSoFrom_20 rfl ?_
    refine z_aload_n dX6_isSoFrom_21 rfl ?_
    refine y_getR dX6_isSoFrom_22 lf_X6_9 rfl rfl ?_
    refine z_iload_n dX6_isSoFrom_25 rfl ?_
    refine y_ialde dX6_isSoFrom_26 rfl (by decide) (by omega) e1 ?_
    refine z_iconst (v := nI 1) dX6_isSoFrom_27 rfl ?_
    refine z_iconst (v := nI 0) dX6_isSoFrom_28 rfl ?_
    refine y_callS5x (M' := M_X6_cellOff) dX6_isSoFrom_29 lm_X6_31 cs_X6_cellOff (Nat.le_of_ble_eq_true rfl) (Nat.le_of_ble_eq_true rfl) rfl (c_cellOff hp hP hc v1 (by decide) (by decide) d) ?_
    refine z_istore4 dX6_isSoFrom_32 rfl ?_
    refine z_aload_n dX6_isSoFrom_34 rfl ?_
    refine y_getR dX6_isSoFrom_35 lf_X6_25 rfl rfl ?_
    refine z_iload dX6_isSoFrom_38 rfl ?_
    refine z_aload_n dX6_isSoFrom_40 rfl ?_
    refine y_getR dX6_isSoFrom_41 lf_X6_15 rfl rfl ?_
    refine z_iload_n dX6_isSoFrom_44 rfl ?_
    refine y_ialde dX6_isSoFrom_45 rfl (by decide) (by omega) e2 ?_
    refine z_iconst (v := nI 3) dX6_isSoFrom_46 rfl ?_
    refine z_iconst (v := nI 2) dX6_isSoFrom_47 rfl ?_
    refine y_callS5x (M' := M_X6_cellOff) dX6_isSoFrom_48 lm_X6_31 cs_X6_cellOff (Nat.le_of_ble_eq_true rfl) (Nat.le_of_ble_eq_true rfl) rfl (c_cellOff hp hP (wlk_lt hp hc (by split <;> decide) _) v2 (by decide) (by decide) d) ?_
    rw [show wlk (pw p) (ph p) (pd p) (if (Sy i).1 = true then 2 else 3) (wlk (pw p) (ph p) (pd p) (if (Sx i).1 = true then 0 else 1) c (Sx i).2) (Sy i).2 = offc p (Sx i) (Sy i) c from rfl]
    refine z_istore5 dX6_isSoFrom_51 rfl ?_
    refine z_aload_n dX6_isSoFrom_53 rfl ?_
    refine z_iload dX6_isSoFrom_54 rfl ?_
    refine y_callV1x (M' := M_X4_kindAt) dX6_isSoFrom_56 lm_X6_35 cv_X4_kindAt rfl (Nat.le_of_ble_eq_true rfl) (Nat.le_of_ble_eq_true rfl) rfl (c_kindAt hp hP sAt10 ho hcut hcl (d + 1)) ?_
    refine z_aload_n dX6_isSoFrom_59 rfl ?_
    refine y_getR dX6_isSoFrom_60 lf_X6_18 rfl rfl ?_
    refine z_iload_n dX6_isSoFrom_63 rfl ?_
    refine y_ialde dX6_isSoFrom_64 rfl (by decide) (by omega) e3 ?_
    refine zn_icmp_eq (tgt := 70) dX6_isSoFrom_65 (by decide) (by omega) (by omega) (fun hc65 => ?_) (fun hc65 => ?_)
    · refine zn_iinc3 dX6_isSoFrom_70 rfl ?_
      refine z_goto (tgt := 2) dX6_isSoFrom_73 (by decide) ?_
      exact z_sub (ih (i + 1) (by omega) (fun j hj => by rcases Nat.lt_or_ge j i with g | g; exact hno j g; rw [show j = i by omega]; exact hc65)) ⟨Or.inr rfl, Or.inr rfl, Or.inr rfl, Or.inr rfl, Or.inl rfl, Or.inl rfl, trivial⟩
    · refine z_iconst (v := nI 0) dX6_isSoFrom_68 rfl ?_
      exact y_zreturn dX6_isSoFrom_69 rfl (by first | exact Or.inl rfl | exact Or.inr rfl | assumption) ⟨by rw [b2i_f (sof_f (i := i) (by omega) hc65)], rfl, rfl⟩
set_option maxRecDepth 4000 in
theorem c_isSoFrom {X : zX} {mu : zmu} {nu : znu} {p : PT} {cut c cnt : Nat} {Sx Sy : Nat → Bool × Nat} {Sk : Nat → Nat} (hp : PV p) (hP : PFc p mu) (hcut : mu 10 2 = nI cut) (hcl : cut < 2 ^ 20) (hE : SEc Sx Sy Sk cnt mu) (hv : SEV Sx Sy Sk cnt) (hc : c < pw p * ph p) (d : Nat) : zJ X M_X6_isSoFrom (d + 2) 0 0 0 [.ref 52, .ref 10, .int (nI c), zu, zu, zu] [] 86 (zEE (mu) nu) (zlift (zex (some (.int (b2i (sof p cut Sx Sy Sk cnt c)))) (mu) nu)) := by
  refine z_iconst (v := nI 0) dX6_isSoFrom_0 rfl ?_
  refine z_istore3 dX6_isSoFrom_1 rfl ?_
  exact c_isSoFrom_l hp hP hcut hcl hE hv hc d cnt 0 (by omega) (fun j hj => by omega)
def seeM (mu : zmu) (cnt : Nat) (x y k : Int32) : zmu := u2 (u2 (u2 (u2 mu 53 cnt x) 54 cnt y) 55 cnt k) 52 3 (nI (cnt + 1))
set_option maxRecDepth 4000 in
theorem c_seeAdd {X : zX} {mu : zmu} {nu : znu} {cnt : Nat} {x y k : Int32} (hc : mu 52 3 = nI cnt) (h6 : cnt ≤ 6) (d : Nat) : zJ X M_X6_add d 0 0 0 [.ref 52, .int x, .int y, .int k] [] 86 (zEE (mu) nu) (zlift (zex (some (.int (b2i (decide (cnt < 6))))) (if cnt < 6 then seeM mu cnt x y k else mu) nu)) := by
  refine z_aload_n dX6_add_0 rfl ?_
  refine y_getIe dX6_add_1 lf_X6_21 rfl rfl hc ?_
  refine z_bipush (v := nI 6) dX6_add_4 rfl ?_
  refine zn_icmp_lt (tgt := 11) dX6_add_6 (by decide) (by omega) (by omega) (fun hc6 => ?_) (fun hc6 => ?_)
  · refine z_aload_n dX6_add_11 rfl ?_
    refine y_getR dX6_add_12 lf_X6_9 rfl rfl ?_
    refine z_aload_n dX6_add_15 rfl ?_
    refine y_getIe dX6_add_16 lf_X6_21 rfl rfl hc ?_
    refine z_iload_n dX6_add_19 rfl ?_
    refine y_iast dX6_add_20 rfl (by decide) (by omega) ?_
    refine z_aload_n dX6_add_21 rfl ?_
    refine y_getR dX6_add_22 lf_X6_15 rfl rfl ?_
    refine z_aload_n dX6_add_25 rfl ?_
    refine y_getIe dX6_add_26 lf_X6_21 rfl rfl ((u2_a (by decide)).trans hc) ?_
    refine z_iload_n dX6_add_29 rfl ?_
    refine y_iast dX6_add_30 rfl (by decide) (by omega) ?_
    refine z_aload_n dX6_add_31 rfl ?_
    refine y_getR dX6_add_32 lf_X6_18 rfl rfl ?_
    refine z_aload_n dX6_add_35 rfl ?_
    refine y_getIe dX6_add_36 lf_X6_21 rfl rfl ((u2_a (by decide)).trans ((u2_a (by decide)).trans hc)) ?_
    refine z_iload_n dX6_add_39 rfl ?_
    refine y_iast dX6_add_40 rfl (by decide) (by omega) ?_
    refine z_aload_n dX6_add_41 rfl ?_
    refine z_dup dX6_add_42 rfl ?_
    refine y_getIe dX6_add_43 lf_X6_21 rfl rfl ((u2_a (by decide)).trans ((u2_a (by decide)).trans ((u2_a (by decide)).trans hc))) ?_
    refine z_iconst (v := nI 1) dX6_add_46 rfl ?_
    refine zn_iadd dX6_add_47 ?_
    refine y_putI dX6_add_48 lp_X6_21 rfl rfl ?_
    refine z_iconst (v := nI 1) dX6_add_51 rfl ?_
    exact y_zreturn dX6_add_52 rfl (by first | exact Or.inl rfl | exact Or.inr rfl | assumption) ⟨by rw [b2i_t]; simp [hc6], by rw [if_pos hc6]; rfl, rfl⟩
  · refine z_iconst (v := nI 0) dX6_add_9 rfl ?_
    exact y_zreturn dX6_add_10 rfl (by first | exact Or.inl rfl | exact Or.inr rfl | assumption) ⟨by rw [b2i_f]; simp; omega, by rw [if_neg (by omega)], rfl⟩
/-- where a boy is behind a way, and what that is worth alone -/
def goc (p : PT) (cut b pl y : Nat) : Nat := (match pon p cut b pl y with | none => pl | some q => q) % 20
def goa (p : PT) (cut b pl y : Nat) : Nat := (if (pon p cut b pl y).isSome = true then 1 else 0) + (if kdk (pK p) cut (goc p cut b pl y) = 3 then 1 else 0)
theorem goc_lt {p : PT} (hp : PV p) {cut b pl y : Nat} (hb : b < pb p) (h1 : pl < 980) (h2 : pl % 20 < pw p * ph p) (hy : y < 4) : goc p cut b pl y < pw p * ph p := by
  unfold goc
  cases h : pon p cut b pl y with
  | none => exact h2
  | some q => exact (pon_ok hp hb h2 h1 hy h).2.1
def gol (p : PT) (cut b pl g i : Nat) (mu : zmu) : zmu := uR (uR mu (g + 1) (fil (fun y => nI (goc p cut b pl y)) (mu (g + 1)) i)) (g + 2) (fil (fun y => nI (goa p cut b pl y)) (mu (g + 2)) i)
theorem gol_0 {p : PT} {cut b pl g : Nat} {mu : zmu} : gol p cut b pl g 0 mu = mu := by unfold gol; rw [fil_0, fil_0]
theorem gol_s {p : PT} {cut b pl g i : Nat} {mu : zmu} : u2 (u2 (gol p cut b pl g i mu) (g + 1) i (nI (goc p cut b pl i))) (g + 2) i (nI (goa p cut b pl i)) = gol p cut b pl g (i + 1) mu := by
  unfold gol
  rw [u2_uR (by omega), fil_s (g := fun y => nI (goc p cut b pl y)), fil_s (g := fun y => nI (goa p cut b pl y))]
theorem gol_o {p : PT} {cut b pl g i a : Nat} {mu : zmu} (h1 : a ≠ g + 1) (h2 : a ≠ g + 2) : gol p cut b pl g i mu a = mu a := by unfold gol; rw [uR_a h2, uR_a h1]
set_option maxRecDepth 4000 in
theorem c_lookAt_l56 {X : zX} {mu : zmu} {nu : znu} {p : PT} {P : Nat → Nat} {cut b : Nat} (hp : PV p) (hP : PFc p mu) (hS : SFc p P cut 10 mu) (hV : SV p P cut) (hb : b < pb p) (d : Nat) : ∀ n i, i + n = 4 → zJ X M_X2_lookAt (d + 3) 0 0 10 [.ref 56, .ref 10, .int (nI b), .int (nI (P b)), .int (nI i), zu, zu] [] 86 (zEE (gol p cut b (P b) 56 i mu) nu) (zlift (zex none (gol p cut b (P b) 56 4 mu) nu)) := by
  intro n
  induction n with
  | zero =>
    intro i hi
    refine z_iload dX2_lookAt_10 rfl ?_
    refine z_iconst (v := nI 4) dX2_lookAt_12 rfl ?_
    refine zn_icmp_ge (tgt := 92) dX2_lookAt_13 (by decide) (by omega) (by omega) (fun hc13 => ?_) (fun hc13 => by omega)
    exact y_return dX2_lookAt_92 rfl ⟨rfl, by rw [show i = 4 by omega], rfl⟩
  | succ n ih =>
    intro i hi
    have hgc := goc_lt hp (cut := cut) hb (hV.1 b hb).1 (hV.1 b hb).2 (y := i) (by omega)
    have hk3 := kdk_le hp (cut := cut) hgc
    have hPb := hV.1 b hb
    refine z_iload dX2_lookAt_10 rfl ?_
    refine z_iconst (v := nI 4) dX2_lookAt_12 rfl ?_
    refine zn_icmp_ge (tgt := 92) dX2_lookAt_13 (by decide) (by omega) (by omega) (fun hc13 => by omega) (fun hc13 => ?_)
    refine z_aload_n dX2_lookAt_16 rfl ?_
    refine z_iload_n dX2_lookAt_17 rfl ?_
    refine z_iload_n dX2_lookAt_18 rfl ?_
    refine z_iload dX2_lookAt_19 rfl ?_
    refine y_callV3x (M' := M_X4_placeOn) dX2_lookAt_21 lm_X2_23 cv_X4_placeOn rfl (Nat.le_of_ble_eq_true rfl) (Nat.le_of_ble_eq_true rfl) rfl (c_placeOn hp (PFc_eq hP (fun a h1 h2 => gol_o (by omega) (by omega))) sAt10 hb (hV.1 b hb).1 (hV.1 b hb).2 (y := i) (by omega) (SFc_eq hS (gol_o (by decide) (by decide)) (gol_o (by decide) (by decide))).2 hV.2 d) ?_
    cases hst : pon p cut b (P b) i with
    | none =>
      refine z_istore5 dX2_lookAt_24 rfl ?_
      refine z_iload dX2_lookAt_26 rfl ?_
      refine z_iconst (v := -1) dX2_lookAt_28 rfl ?_
      refine z_icmp_ne (tgt := 36) dX2_lookAt_29 (by decide) (fun hc29 => by exact absurd rfl hc29) (fun hc29 => ?_)
      refine z_iload_n dX2_lookAt_32 rfl ?_
      refine z_goto (tgt := 38) dX2_lookAt_33 (by decide) ?_
      refine y_callSN1x (M' := M_X8_cellOf) dX2_lookAt_38 ln_X2_27 cs_X8_cellOf (Nat.le_of_ble_eq_true rfl) (Nat.le_of_ble_eq_true rfl) rfl (c_cellOf (P b) (by omega) (d + 2)) ?_
      rw [show (P b) % 20 = goc p cut b (P b) i by unfold goc; rw [hst]]
      refine z_istore6 dX2_lookAt_41 rfl ?_
      refine z_aload_n dX2_lookAt_43 rfl ?_
      refine y_getR dX2_lookAt_44 lf_X2_9 rfl rfl ?_
      refine z_iload dX2_lookAt_47 rfl ?_
      refine z_iload dX2_lookAt_49 rfl ?_
      refine y_iast dX2_lookAt_51 rfl (by decide) (by omega) ?_
      refine z_aload_n dX2_lookAt_52 rfl ?_
      refine y_getR dX2_lookAt_53 lf_X2_15 rfl rfl ?_
      refine z_iload dX2_lookAt_56 rfl ?_
      refine z_iload dX2_lookAt_58 rfl ?_
      refine z_iconst (v := -1) dX2_lookAt_60 rfl ?_
      refine z_icmp_ne (tgt := 68) dX2_lookAt_61 (by decide) (fun hc61 => by exact absurd rfl hc61) (fun hc61 => ?_)
      refine z_iconst (v := nI 0) dX2_lookAt_64 rfl ?_
      refine z_goto (tgt := 69) dX2_lookAt_65 (by decide) ?_
      refine z_aload_n dX2_lookAt_69 rfl ?_
      refine z_iload dX2_lookAt_70 rfl ?_
      refine y_callV1x (M' := M_X4_kindAt) dX2_lookAt_72 lm_X2_31 cv_X4_kindAt rfl (Nat.le_of_ble_eq_true rfl) (Nat.le_of_ble_eq_true rfl) rfl (c_kindAt hp (PFc_eq hP (fun a h1 h2 => (u2_rowa (by omega)).trans (gol_o (by omega) (by omega)))) sAt10 hgc ((congrFun (u2_rowa (by decide)) 2).trans (SFc_eq hS (gol_o (by decide) (by decide)) (gol_o (by decide) (by decide))).2) hV.2 (d + 2)) ?_
      refine z_iconst (v := nI 3) dX2_lookAt_75 rfl ?_
      refine zn_icmp_ne (tgt := 83) dX2_lookAt_76 (by decide) (by omega) (by omega) (fun hc76 => ?_) (fun hc76 => ?_)
      · have goe : 0 + 0 = goa p cut b (P b) i := by unfold goa; rw [hst, if_neg hc76]; rfl
        refine z_iconst (v := nI 0) dX2_lookAt_83 rfl ?_
        refine zn_iadd dX2_lookAt_84 ?_
        refine y_iast dX2_lookAt_85 rfl (by decide) (by omega) ?_
        refine zn_iinc4 dX2_lookAt_86 rfl ?_
        refine z_goto (tgt := 10) dX2_lookAt_89 (by decide) ?_
        rw [goe, gol_s]; exact z_sub (ih (i + 1) (by omega)) ⟨Or.inr rfl, Or.inr rfl, Or.inr rfl, Or.inr rfl, Or.inr rfl, Or.inl rfl, Or.inl rfl, trivial⟩
      · have goe : 0 + 1 = goa p cut b (P b) i := by unfold goa; rw [hst, if_pos hc76]; rfl
        refine z_iconst (v := nI 1) dX2_lookAt_79 rfl ?_
        refine z_goto (tgt := 84) dX2_lookAt_80 (by decide) ?_
        refine zn_iadd dX2_lookAt_84 ?_
        refine y_iast dX2_lookAt_85 rfl (by decide) (by omega) ?_
        refine zn_iinc4 dX2_lookAt_86 rfl ?_
        refine z_goto (tgt := 10) dX2_lookAt_89 (by decide) ?_
        rw [goe, gol_s]; exact z_sub (ih (i + 1) (by omega)) ⟨Or.inr rfl, Or.inr rfl, Or.inr rfl, Or.inr rfl, Or.inr rfl, Or.inl rfl, Or.inl rfl, trivial⟩
    | some q =>
      have hq := pon_ok hp hb (hV.1 b hb).2 (hV.1 b hb).1 (by omega) hst
      rw [show oI (some q) = nI q from rfl]
      refine z_istore5 dX2_lookAt_24 rfl ?_
      refine z_iload dX2_lookAt_26 rfl ?_
      refine z_iconst (v := -1) dX2_lookAt_28 rfl ?_
      refine z_icmp_ne (tgt := 36) dX2_lookAt_29 (by decide) (fun hc29 => ?_) (fun hc29 => by exact absurd hc29 (nI_m1 (by omega)))
      refine z_iload dX2_lookAt_36 rfl ?_
      refine y_callSN1x (M' := M_X8_cellOf) dX2_lookAt_38 ln_X2_27 cs_X8_cellOf (Nat.le_of_ble_eq_true rfl) (Nat.le_of_ble_eq_true rfl) rfl (c_cellOf (q) (by omega) (d + 2)) ?_
      rw [show (q) % 20 = goc p cut b (P b) i by unfold goc; rw [hst]]
      refine z_istore6 dX2_lookAt_41 rfl ?_
      refine z_aload_n dX2_lookAt_43 rfl ?_
      refine y_getR dX2_lookAt_44 lf_X2_9 rfl rfl ?_
      refine z_iload dX2_lookAt_47 rfl ?_
      refine z_iload dX2_lookAt_49 rfl ?_
      refine y_iast dX2_lookAt_51 rfl (by decide) (by omega) ?_
      refine z_aload_n dX2_lookAt_52 rfl ?_
      refine y_getR dX2_lookAt_53 lf_X2_15 rfl rfl ?_
      refine z_iload dX2_lookAt_56 rfl ?_
      refine z_iload dX2_lookAt_58 rfl ?_
      refine z_iconst (v := -1) dX2_lookAt_60 rfl ?_
      refine z_icmp_ne (tgt := 68) dX2_lookAt_61 (by decide) (fun hc61 => ?_) (fun hc61 => by exact absurd hc61 (nI_m1 (by omega)))
      refine z_iconst (v := nI 1) dX2_lookAt_68 rfl ?_
      refine z_aload_n dX2_lookAt_69 rfl ?_
      refine z_iload dX2_lookAt_70 rfl ?_
      refine y_callV1x (M' := M_X4_kindAt) dX2_lookAt_72 lm_X2_31 cv_X4_kindAt rfl (Nat.le_of_ble_eq_true rfl) (Nat.le_of_ble_eq_true rfl) rfl (c_kindAt hp (PFc_eq hP (fun a h1 h2 => (u2_rowa (by omega)).trans (gol_o (by omega) (by omega)))) sAt10 hgc ((congrFun (u2_rowa (by decide)) 2).trans (SFc_eq hS (gol_o (by decide) (by decide)) (gol_o (by decide) (by decide))).2) hV.2 (d + 2)) ?_
      refine z_iconst (v := nI 3) dX2_lookAt_75 rfl ?_
      refine zn_icmp_ne (tgt := 83) dX2_lookAt_76 (by decide) (by omega) (by omega) (fun hc76 => ?_) (fun hc76 => ?_)
      · have goe : 1 + 0 = goa p cut b (P b) i := by unfold goa; rw [hst, if_neg hc76]; rfl
        refine z_iconst (v := nI 0) dX2_lookAt_83 rfl ?_
        refine zn_iadd dX2_lookAt_84 ?_
        refine y_iast dX2_lookAt_85 rfl (by decide) (by omega) ?_
        refine zn_iinc4 dX2_lookAt_86 rfl ?_
        refine z_goto (tgt := 10) dX2_lookAt_89 (by decide) ?_
        rw [goe, gol_s]; exact z_sub (ih (i + 1) (by omega)) ⟨Or.inr rfl, Or.inr rfl, Or.inr rfl, Or.inr rfl, Or.inr rfl, Or.inl rfl, Or.inl rfl, trivial⟩
      · have goe : 1 + 1 = goa p cut b (P b) i := by unfold goa; rw [hst, if_pos hc76]; rfl
        refine z_iconst (v := nI 1) dX2_lookAt_79 rfl ?_
        refine z_goto (tgt := 84) dX2_lookAt_80 (by decide) ?_
        refine zn_iadd dX2_lookAt_84 ?_
        refine y_iast dX2_lookAt_85 rfl (by decide) (by omega) ?_
        refine zn_iinc4 dX2_lookAt_86 rfl ?_
        refine z_goto (tgt := 10) dX2_lookAt_89 (by decide) ?_
        rw [goe, gol_s]; exact z_sub (ih (i + 1) (by omega)) ⟨Or.inr rfl, Or.inr rfl, Or.inr rfl, Or.inr rfl, Or.inr rfl, Or.inl rfl, Or.inl rfl, trivial⟩
set_option maxRecDepth 4000 in
theorem c_lookAt56 {X : zX} {mu : zmu} {nu : znu} {p : PT} {P : Nat → Nat} {cut b : Nat} (hp : PV p) (hP : PFc p mu) (hS : SFc p P cut 10 mu) (hV : SV p P cut) (hb : b < pb p) (d : Nat) : zJ X M_X2_lookAt (d + 3) 0 0 0 [.ref 56, .ref 10, .int (nI b), zu, zu, zu, zu] [] 86 (zEE (mu) nu) (zlift (zex none (gol p cut b (P b) 56 4 mu) nu)) := by
  have h5 := hp.2.2.2.2.2.1
  refine z_aload_n dX2_lookAt_0 rfl ?_
  refine y_getR dX2_lookAt_1 lf_X2_18 rfl rfl ?_
  refine z_iload_n dX2_lookAt_4 rfl ?_
  refine y_ialde dX2_lookAt_5 rfl (by decide) (by omega) (hS.1 b hb) ?_
  refine z_istore3 dX2_lookAt_6 rfl ?_
  refine z_iconst (v := nI 0) dX2_lookAt_7 rfl ?_
  refine z_istore4 dX2_lookAt_8 rfl ?_
  have k := c_lookAt_l56 (X := X) (nu := nu) hp hP hS hV hb d 4 0 (by omega); rw [gol_0] at k; exact k
set_option maxRecDepth 4000 in
theorem c_lookAt_l59 {X : zX} {mu : zmu} {nu : znu} {p : PT} {P : Nat → Nat} {cut b : Nat} (hp : PV p) (hP : PFc p mu) (hS : SFc p P cut 10 mu) (hV : SV p P cut) (hb : b < pb p) (d : Nat) : ∀ n i, i + n = 4 → zJ X M_X2_lookAt (d + 3) 0 0 10 [.ref 59, .ref 10, .int (nI b), .int (nI (P b)), .int (nI i), zu, zu] [] 86 (zEE (gol p cut b (P b) 59 i mu) nu) (zlift (zex none (gol p cut b (P b) 59 4 mu) nu)) := by
  intro n
  induction n with
  | zero =>
    intro i hi
    refine z_iload dX2_lookAt_10 rfl ?_
    refine z_iconst (v := nI 4) dX2_lookAt_12 rfl ?_
    refine zn_icmp_ge (tgt := 92) dX2_lookAt_13 (by decide) (by omega) (by omega) (fun hc13 => ?_) (fun hc13 => by omega)
    exact y_return dX2_lookAt_92 rfl ⟨rfl, by rw [show i = 4 by omega], rfl⟩
  | succ n ih =>
    intro i hi
    have hgc := goc_lt hp (cut := cut) hb (hV.1 b hb).1 (hV.1 b hb).2 (y := i) (by omega)
    have hk3 := kdk_le hp (cut := cut) hgc
    have hPb := hV.1 b hb
    refine z_iload dX2_lookAt_10 rfl ?_
    refine z_iconst (v := nI 4) dX2_lookAt_12 rfl ?_
    refine zn_icmp_ge (tgt := 92) dX2_lookAt_13 (by decide) (by omega) (by omega) (fun hc13 => by omega) (fun hc13 => ?_)
    refine z_aload_n dX2_lookAt_16 rfl ?_
    refine z_iload_n dX2_lookAt_17 rfl ?_
    refine z_iload_n dX2_lookAt_18 rfl ?_
    refine z_iload dX2_lookAt_19 rfl ?_
    refine y_callV3x (M' := M_X4_placeOn) dX2_lookAt_21 lm_X2_23 cv_X4_placeOn rfl (Nat.le_of_ble_eq_true rfl) (Nat.le_of_ble_eq_true rfl) rfl (c_placeOn hp (PFc_eq hP (fun a h1 h2 => gol_o (by omega) (by omega))) sAt10 hb (hV.1 b hb).1 (hV.1 b hb).2 (y := i) (by omega) (SFc_eq hS (gol_o (by decide) (by decide)) (gol_o (by decide) (by decide))).2 hV.2 d) ?_
    cases hst : pon p cut b (P b) i with
    | none =>
      refine z_istore5 dX2_lookAt_24 rfl ?_
      refine z_iload dX2_lookAt_26 rfl ?_
      refine z_iconst (v := -1) dX2_lookAt_28 rfl ?_
      refine z_icmp_ne (tgt := 36) dX2_lookAt_29 (by decide) (fun hc29 => by exact absurd rfl hc29) (fun hc29 => ?_)
      refine z_iload_n dX2_lookAt_32 rfl ?_
      refine z_goto (tgt := 38) dX2_lookAt_33 (by decide) ?_
      refine y_callSN1x (M' := M_X8_cellOf) dX2_lookAt_38 ln_X2_27 cs_X8_cellOf (Nat.le_of_ble_eq_true rfl) (Nat.le_of_ble_eq_true rfl) rfl (c_cellOf (P b) (by omega) (d + 2)) ?_
      rw [show (P b) % 20 = goc p cut b (P b) i by unfold goc; rw [hst]]
      refine z_istore6 dX2_lookAt_41 rfl ?_
      refine z_aload_n dX2_lookAt_43 rfl ?_
      refine y_getR dX2_lookAt_44 lf_X2_9 rfl rfl ?_
      refine z_iload dX2_lookAt_47 rfl ?_
      refine z_iload dX2_lookAt_49 rfl ?_
      refine y_iast dX2_lookAt_51 rfl (by decide) (by omega) ?_
      refine z_aload_n dX2_lookAt_52 rfl ?_
      refine y_getR dX2_lookAt_53 lf_X2_15 rfl rfl ?_
      refine z_iload dX2_lookAt_56 rfl ?_
      refine z_iload dX2_lookAt_58 rfl ?_
      refine z_iconst (v := -1) dX2_lookAt_60 rfl ?_
      refine z_icmp_ne (tgt := 68) dX2_lookAt_61 (by decide) (fun hc61 => by exact absurd rfl hc61) (fun hc61 => ?_)
      refine z_iconst (v := nI 0) dX2_lookAt_64 rfl ?_
      refine z_goto (tgt := 69) dX2_lookAt_65 (by decide) ?_
      refine z_aload_n dX2_lookAt_69 rfl ?_
      refine z_iload dX2_lookAt_70 rfl ?_
      refine y_callV1x (M' := M_X4_kindAt) dX2_lookAt_72 lm_X2_31 cv_X4_kindAt rfl (Nat.le_of_ble_eq_true rfl) (Nat.le_of_ble_eq_true rfl) rfl (c_kindAt hp (PFc_eq hP (fun a h1 h2 => (u2_rowa (by omega)).trans (gol_o (by omega) (by omega)))) sAt10 hgc ((congrFun (u2_rowa (by decide)) 2).trans (SFc_eq hS (gol_o (by decide) (by decide)) (gol_o (by decide) (by decide))).2) hV.2 (d + 2)) ?_
      refine z_iconst (v := nI 3) dX2_lookAt_75 rfl ?_
      refine zn_icmp_ne (tgt := 83) dX2_lookAt_76 (by decide) (by omega) (by omega) (fun hc76 => ?_) (fun hc76 => ?_)
      · have goe : 0 + 0 = goa p cut b (P b) i := by unfold goa; rw [hst, if_neg hc76]; rfl
        refine z_iconst (v := nI 0) dX2_lookAt_83 rfl ?_
        refine zn_iadd dX2_lookAt_84 ?_
        refine y_iast dX2_lookAt_85 rfl (by decide) (by omega) ?_
        refine zn_iinc4 dX2_lookAt_86 rfl ?_
        refine z_goto (tgt := 10) dX2_lookAt_89 (by decide) ?_
        rw [goe, gol_s]; exact z_sub (ih (i + 1) (by omega)) ⟨Or.inr rfl, Or.inr rfl, Or.inr rfl, Or.inr rfl, Or.inr rfl, Or.inl rfl, Or.inl rfl, trivial⟩
      · have goe : 0 + 1 = goa p cut b (P b) i := by unfold goa; rw [hst, if_pos hc76]; rfl
        refine z_iconst (v := nI 1) dX2_lookAt_79 rfl ?_
        refine z_goto (tgt := 84) dX2_lookAt_80 (by decide) ?_
        refine zn_iadd dX2_lookAt_84 ?_
        refine y_iast dX2_lookAt_85 rfl (by decide) (by omega) ?_
        refine zn_iinc4 dX2_lookAt_86 rfl ?_
        refine z_goto (tgt := 10) dX2_lookAt_89 (by decide) ?_
        rw [goe, gol_s]; exact z_sub (ih (i + 1) (by omega)) ⟨Or.inr rfl, Or.inr rfl, Or.inr rfl, Or.inr rfl, Or.inr rfl, Or.inl rfl, Or.inl rfl, trivial⟩
    | some q =>
      have hq := pon_ok hp hb (hV.1 b hb).2 (hV.1 b hb).1 (by omega) hst
      rw [show oI (some q) = nI q from rfl]
      refine z_istore5 dX2_lookAt_24 rfl ?_
      refine z_iload dX2_lookAt_26 rfl ?_
      refine z_iconst (v := -1) dX2_lookAt_28 rfl ?_
      refine z_icmp_ne (tgt := 36) dX2_lookAt_29 (by decide) (fun hc29 => ?_) (fun hc29 => by exact absurd hc29 (nI_m1 (by omega)))
      refine z_iload dX2_lookAt_36 rfl ?_
      refine y_callSN1x (M' := M_X8_cellOf) dX2_lookAt_38 ln_X2_27 cs_X8_cellOf (Nat.le_of_ble_eq_true rfl) (Nat.le_of_ble_eq_true rfl) rfl (c_cellOf (q) (by omega) (d + 2)) ?_
      rw [show (q) % 20 = goc p cut b (P b) i by unfold goc; rw [hst]]
      refine z_istore6 dX2_lookAt_41 rfl ?_
      refine z_aload_n dX2_lookAt_43 rfl ?_
      refine y_getR dX2_lookAt_44 lf_X2_9 rfl rfl ?_
      refine z_iload dX2_lookAt_47 rfl ?_
      refine z_iload dX2_lookAt_49 rfl ?_
      refine y_iast dX2_lookAt_51 rfl (by decide) (by omega) ?_
      refine z_aload_n dX2_lookAt_52 rfl ?_
      refine y_getR dX2_lookAt_53 lf_X2_15 rfl rfl ?_
      refine z_iload dX2_lookAt_56 rfl ?_
      refine z_iload dX2_lookAt_58 rfl ?_
      refine z_iconst (v := -1) dX2_lookAt_60 rfl ?_
      refine z_icmp_ne (tgt := 68) dX2_lookAt_61 (by decide) (fun hc61 => ?_) (fun hc61 => by exact absurd hc61 (nI_m1 (by omega)))
      refine z_iconst (v := nI 1) dX2_lookAt_68 rfl ?_
      refine z_aload_n dX2_lookAt_69 rfl ?_
      refine z_iload dX2_lookAt_70 rfl ?_
      refine y_callV1x (M' := M_X4_kindAt) dX2_lookAt_72 lm_X2_31 cv_X4_kindAt rfl (Nat.le_of_ble_eq_true rfl) (Nat.le_of_ble_eq_true rfl) rfl (c_kindAt hp (PFc_eq hP (fun a h1 h2 => (u2_rowa (by omega)).trans (gol_o (by omega) (by omega)))) sAt10 hgc ((congrFun (u2_rowa (by decide)) 2).trans (SFc_eq hS (gol_o (by decide) (by decide)) (gol_o (by decide) (by decide))).2) hV.2 (d + 2)) ?_
      refine z_iconst (v := nI 3) dX2_lookAt_75 rfl ?_
      refine zn_icmp_ne (tgt := 83) dX2_lookAt_76 (by decide) (by omega) (by omega) (fun hc76 => ?_) (fun hc76 => ?_)
      · have goe : 1 + 0 = goa p cut b (P b) i := by unfold goa; rw [hst, if_neg hc76]; rfl
        refine z_iconst (v := nI 0) dX2_lookAt_83 rfl ?_
        refine zn_iadd dX2_lookAt_84 ?_
        refine y_iast dX2_lookAt_85 rfl (by decide) (by omega) ?_
        refine zn_iinc4 dX2_lookAt_86 rfl ?_
        refine z_goto (tgt := 10) dX2_lookAt_89 (by decide) ?_
        rw [goe, gol_s]; exact z_sub (ih (i + 1) (by omega)) ⟨Or.inr rfl, Or.inr rfl, Or.inr rfl, Or.inr rfl, Or.inr rfl, Or.inl rfl, Or.inl rfl, trivial⟩
      · have goe : 1 + 1 = goa p cut b (P b) i := by unfold goa; rw [hst, if_pos hc76]; rfl
        refine z_iconst (v := nI 1) dX2_lookAt_79 rfl ?_
        refine z_goto (tgt := 84) dX2_lookAt_80 (by decide) ?_
        refine zn_iadd dX2_lookAt_84 ?_
        refine y_iast dX2_lookAt_85 rfl (by decide) (by omega) ?_
        refine zn_iinc4 dX2_lookAt_86 rfl ?_
        refine z_goto (tgt := 10) dX2_lookAt_89 (by decide) ?_
        rw [goe, gol_s]; exact z_sub (ih (i + 1) (by omega)) ⟨Or.inr rfl, Or.inr rfl, Or.inr rfl, Or.inr rfl, Or.inr rfl, Or.inl rfl, Or.inl rfl, trivial⟩
set_option maxRecDepth 4000 in
theorem c_lookAt59 {X : zX} {mu : zmu} {nu : znu} {p : PT} {P : Nat → Nat} {cut b : Nat} (hp : PV p) (hP : PFc p mu) (hS : SFc p P cut 10 mu) (hV : SV p P cut) (hb : b < pb p) (d : Nat) : zJ X M_X2_lookAt (d + 3) 0 0 0 [.ref 59, .ref 10, .int (nI b), zu, zu, zu, zu] [] 86 (zEE (mu) nu) (zlift (zex none (gol p cut b (P b) 59 4 mu) nu)) := by
  have h5 := hp.2.2.2.2.2.1
  refine z_aload_n dX2_lookAt_0 rfl ?_
  refine y_getR dX2_lookAt_1 lf_X2_18 rfl rfl ?_
  refine z_iload_n dX2_lookAt_4 rfl ?_
  refine y_ialde dX2_lookAt_5 rfl (by decide) (by omega) (hS.1 b hb) ?_
  refine z_istore3 dX2_lookAt_6 rfl ?_
  refine z_iconst (v := nI 0) dX2_lookAt_7 rfl ?_
  refine z_istore4 dX2_lookAt_8 rfl ?_
  have k := c_lookAt_l59 (X := X) (nu := nu) hp hP hS hV hb d 4 0 (by omega); rw [gol_0] at k; exact k
set_option maxRecDepth 4000 in
theorem c_worth56 {X : zX} {mu : zmu} {nu : znu} {y y2 A c c2 : Nat} (hy : y < 4) (hy2 : y2 < 4) (hA : mu 58 y = nI A) (hc : mu 57 y = nI c) (hc2 : mu 60 y2 = nI c2) (h1 : c < 1000) (h2 : c2 < 1000) (d : Nat) : zJ X M_X2_worth d 0 0 0 [.ref 56, .int (nI y), .ref 59, .int (nI y2)] [] 86 (zEE (mu) nu) (zlift (zex (some (.int (nI (A + if c = c2 then 3 else 0)))) (mu) nu)) := by
  refine z_aload_n dX2_worth_0 rfl ?_
  refine y_getR dX2_worth_1 lf_X2_15 rfl rfl ?_
  refine z_iload_n dX2_worth_4 rfl ?_
  refine y_ialde dX2_worth_5 rfl (by decide) (by omega) hA ?_
  refine z_aload_n dX2_worth_6 rfl ?_
  refine y_getR dX2_worth_7 lf_X2_9 rfl rfl ?_
  refine z_iload_n dX2_worth_10 rfl ?_
  refine y_ialde dX2_worth_11 rfl (by decide) (by omega) hc ?_
  refine z_aload_n dX2_worth_12 rfl ?_
  refine y_getR dX2_worth_13 lf_X2_9 rfl rfl ?_
  refine z_iload_n dX2_worth_16 rfl ?_
  refine y_ialde dX2_worth_17 rfl (by decide) (by omega) hc2 ?_
  refine zn_icmp_ne (tgt := 25) dX2_worth_18 (by decide) (by omega) (by omega) (fun hc18 => ?_) (fun hc18 => ?_)
  · refine z_iconst (v := nI 0) dX2_worth_25 rfl ?_
    refine zn_iadd dX2_worth_26 ?_
    exact y_ireturn dX2_worth_27 rfl ⟨by rw [if_neg hc18], rfl, rfl⟩
  · refine z_iconst (v := nI 3) dX2_worth_21 rfl ?_
    refine z_goto (tgt := 26) dX2_worth_22 (by decide) ?_
    refine zn_iadd dX2_worth_26 ?_
    exact y_ireturn dX2_worth_27 rfl ⟨by rw [if_pos hc18], rfl, rfl⟩
set_option maxRecDepth 4000 in
theorem c_worth59 {X : zX} {mu : zmu} {nu : znu} {y y2 A c c2 : Nat} (hy : y < 4) (hy2 : y2 < 4) (hA : mu 61 y = nI A) (hc : mu 60 y = nI c) (hc2 : mu 57 y2 = nI c2) (h1 : c < 1000) (h2 : c2 < 1000) (d : Nat) : zJ X M_X2_worth d 0 0 0 [.ref 59, .int (nI y), .ref 56, .int (nI y2)] [] 86 (zEE (mu) nu) (zlift (zex (some (.int (nI (A + if c = c2 then 3 else 0)))) (mu) nu)) := by
  refine z_aload_n dX2_worth_0 rfl ?_
  refine y_getR dX2_worth_1 lf_X2_15 rfl rfl ?_
  refine z_iload_n dX2_worth_4 rfl ?_
  refine y_ialde dX2_worth_5 rfl (by decide) (by omega) hA ?_
  refine z_aload_n dX2_worth_6 rfl ?_
  refine y_getR dX2_worth_7 lf_X2_9 rfl rfl ?_
  refine z_iload_n dX2_worth_10 rfl ?_
  refine y_ialde dX2_worth_11 rfl (by decide) (by omega) hc ?_
  refine z_aload_n dX2_worth_12 rfl ?_
  refine y_getR dX2_worth_13 lf_X2_9 rfl rfl ?_
  refine z_iload_n dX2_worth_16 rfl ?_
  refine y_ialde dX2_worth_17 rfl (by decide) (by omega) hc2 ?_
  refine zn_icmp_ne (tgt := 25) dX2_worth_18 (by decide) (by omega) (by omega) (fun hc18 => ?_) (fun hc18 => ?_)
  · refine z_iconst (v := nI 0) dX2_worth_25 rfl ?_
    refine zn_iadd dX2_worth_26 ?_
    exact y_ireturn dX2_worth_27 rfl ⟨by rw [if_neg hc18], rfl, rfl⟩
  · refine z_iconst (v := nI 3) dX2_worth_21 rfl ?_
    refine z_goto (tgt := 26) dX2_worth_22 (by decide) ?_
    refine zn_iadd dX2_worth_26 ?_
    exact y_ireturn dX2_worth_27 rfl ⟨by rw [if_pos hc18], rfl, rfl⟩
